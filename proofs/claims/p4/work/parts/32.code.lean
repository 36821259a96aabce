/-! the code of each method by named stretches: k_z_t is method z from place t on -/
noncomputable def k_0_0 : List Instr := .aload 0 :: .invokespecial 9000 :: .aload 0 :: .iconst 0 :: .putfield 2 :: .aload 0 :: .iconst 64 :: .newarray .int :: .putfield 3 :: .aload 0 :: .iload 1 :: .iconst 0 :: .invokestatic 9002 :: .newarray .int :: .putfield 0 :: .aload 0 :: .iload 1 :: .iconst 0 :: .invokestatic 9002 :: .newarray .int :: .putfield 1 :: .return_ :: []
theorem fl_0_0 : m_fl (s_0.drop 0) = k_0_0 := rfl
theorem tn_0_0 {L : Nat} {xs : Nat → Int32} : m_tg (p_P L xs) 0 0 = k_0_0 := (show m_tgl s_0 0 = m_fl (s_0.drop 0) from rfl).trans fl_0_0
noncomputable def k_1_54 : List Instr := .return_ :: []
theorem fl_1_1 : m_fl (s_1.drop 1) = k_1_54 := rfl
noncomputable def k_1_0 : List Instr := .aload 0 :: .getfield 2 :: .aload 0 :: .getfield 0 :: .ldc_w 100 :: .if_icmp .ge 54 :: .aload 0 :: .getfield 2 :: .aload 0 :: .getfield 1 :: .ldc_w 100 :: .if_icmp .ge 54 :: .aload 0 :: .getfield 0 :: .aload 0 :: .getfield 2 :: .iload 1 :: .iastore :: .aload 0 :: .getfield 1 :: .aload 0 :: .getfield 2 :: .iload 2 :: .iastore :: .aload 0 :: .dup :: .getfield 2 :: .iconst 1 :: .iadd :: .putfield 2 :: k_1_54
theorem fl_1_0 : m_fl (s_1.drop 0) = k_1_0 := (show m_fl (s_1.drop 0) = [.aload 0, .getfield 2, .aload 0, .getfield 0, .ldc_w 100, .if_icmp .ge 54, .aload 0, .getfield 2, .aload 0, .getfield 1, .ldc_w 100, .if_icmp .ge 54, .aload 0, .getfield 0, .aload 0, .getfield 2, .iload 1, .iastore, .aload 0, .getfield 1, .aload 0, .getfield 2, .iload 2, .iastore, .aload 0, .dup, .getfield 2, .iconst 1, .iadd, .putfield 2] ++ m_fl (s_1.drop 1) from rfl).trans (by rw [fl_1_1]; rfl)
theorem tn_1_0 {L : Nat} {xs : Nat → Int32} : m_tg (p_P L xs) 1 0 = k_1_0 := (show m_tgl s_1 0 = m_fl (s_1.drop 0) from rfl).trans fl_1_0
theorem tg_1_54 {L : Nat} {xs : Nat → Int32} : m_tg (p_P L xs) 1 54 = k_1_54 := (show m_tgl s_1 54 = m_fl (s_1.drop 1) from rfl).trans fl_1_1
noncomputable def k_2_233 : List Instr := .ireturn :: []
theorem fl_2_11 : m_fl (s_2.drop 11) = k_2_233 := rfl
noncomputable def k_2_232 : List Instr := .iconst 0 :: k_2_233
theorem fl_2_10 : m_fl (s_2.drop 10) = k_2_232 := (show m_fl (s_2.drop 10) = [.iconst 0] ++ m_fl (s_2.drop 11) from rfl).trans (by rw [fl_2_11]; rfl)
noncomputable def k_2_215 : List Instr := .iload 4 :: .ifCond .le 232 :: .aload 0 :: .getfield 3 :: .iload 4 :: .iconst 1 :: .isub :: .iaload :: .goto 233 :: k_2_232
theorem fl_2_9 : m_fl (s_2.drop 9) = k_2_215 := (show m_fl (s_2.drop 9) = [.iload 4, .ifCond .le 232, .aload 0, .getfield 3, .iload 4, .iconst 1, .isub, .iaload, .goto 233] ++ m_fl (s_2.drop 10) from rfl).trans (by rw [fl_2_10]; rfl)
noncomputable def k_2_209 : List Instr := .iinc 5 1 :: .goto 10 :: k_2_215
theorem fl_2_8 : m_fl (s_2.drop 8) = k_2_209 := (show m_fl (s_2.drop 8) = [.iinc 5 1, .goto 10] ++ m_fl (s_2.drop 9) from rfl).trans (by rw [fl_2_9]; rfl)
noncomputable def k_2_170 : List Instr := .iload 4 :: .iconst 1 :: .if_icmp .le 209 :: .iinc 4 (-1) :: .aload 0 :: .getfield 3 :: .iload 4 :: .iconst 1 :: .isub :: .iload 6 :: .aload 0 :: .getfield 3 :: .iload 4 :: .iconst 1 :: .isub :: .iaload :: .aload 0 :: .getfield 3 :: .iload 4 :: .iaload :: .invokestatic 4 :: .iastore :: k_2_209
theorem fl_2_7 : m_fl (s_2.drop 7) = k_2_170 := (show m_fl (s_2.drop 7) = [.iload 4, .iconst 1, .if_icmp .le 209, .iinc 4 (-1), .aload 0, .getfield 3, .iload 4, .iconst 1, .isub, .iload 6, .aload 0, .getfield 3, .iload 4, .iconst 1, .isub, .iaload, .aload 0, .getfield 3, .iload 4, .iaload, .invokestatic 4, .iastore] ++ m_fl (s_2.drop 8) from rfl).trans (by rw [fl_2_8]; rfl)
noncomputable def k_2_136 : List Instr := .iload 6 :: .iconst 3 :: .if_icmp .ne 170 :: .iload 4 :: .ifCond .le 209 :: .aload 0 :: .getfield 3 :: .iload 4 :: .iconst 1 :: .isub :: .iconst 1 :: .aload 0 :: .getfield 3 :: .iload 4 :: .iconst 1 :: .isub :: .iaload :: .isub :: .iastore :: .goto 209 :: k_2_170
theorem fl_2_6 : m_fl (s_2.drop 6) = k_2_136 := (show m_fl (s_2.drop 6) = [.iload 6, .iconst 3, .if_icmp .ne 170, .iload 4, .ifCond .le 209, .aload 0, .getfield 3, .iload 4, .iconst 1, .isub, .iconst 1, .aload 0, .getfield 3, .iload 4, .iconst 1, .isub, .iaload, .isub, .iastore, .goto 209] ++ m_fl (s_2.drop 7) from rfl).trans (by rw [fl_2_7]; rfl)
noncomputable def k_2_93 : List Instr := .iload 6 :: .iconst 2 :: .if_icmp .ne 136 :: .iload 4 :: .ifCond .le 209 :: .iload 7 :: .ifCond .lt 209 :: .iload 7 :: .aload 3 :: .ldc_w 100 :: .if_icmp .ge 209 :: .iinc 4 (-1) :: .aload 3 :: .iload 7 :: .aload 0 :: .getfield 3 :: .iload 4 :: .iaload :: .iconst (65535) :: .iand :: .iastore :: .goto 209 :: k_2_136
theorem fl_2_5 : m_fl (s_2.drop 5) = k_2_93 := (show m_fl (s_2.drop 5) = [.iload 6, .iconst 2, .if_icmp .ne 136, .iload 4, .ifCond .le 209, .iload 7, .ifCond .lt 209, .iload 7, .aload 3, .ldc_w 100, .if_icmp .ge 209, .iinc 4 (-1), .aload 3, .iload 7, .aload 0, .getfield 3, .iload 4, .iaload, .iconst (65535), .iand, .iastore, .goto 209] ++ m_fl (s_2.drop 6) from rfl).trans (by rw [fl_2_6]; rfl)
noncomputable def k_2_86 : List Instr := .iastore :: .iinc 4 1 :: .goto 209 :: k_2_93
theorem fl_2_4 : m_fl (s_2.drop 4) = k_2_86 := (show m_fl (s_2.drop 4) = [.iastore, .iinc 4 1, .goto 209] ++ m_fl (s_2.drop 5) from rfl).trans (by rw [fl_2_5]; rfl)
noncomputable def k_2_80 : List Instr := .aload 3 :: .iload 7 :: .invokestatic 3 :: k_2_86
theorem fl_2_3 : m_fl (s_2.drop 3) = k_2_80 := (show m_fl (s_2.drop 3) = [.aload 3, .iload 7, .invokestatic 3] ++ m_fl (s_2.drop 4) from rfl).trans (by rw [fl_2_4]; rfl)
noncomputable def k_2_54 : List Instr := .iload 4 :: .aload 0 :: .getfield 3 :: .ldc_w 100 :: .if_icmp .ge 209 :: .aload 0 :: .getfield 3 :: .iload 4 :: .iload 6 :: .ifCond .ne 80 :: .iload 7 :: .goto 86 :: k_2_80
theorem fl_2_2 : m_fl (s_2.drop 2) = k_2_54 := (show m_fl (s_2.drop 2) = [.iload 4, .aload 0, .getfield 3, .ldc_w 100, .if_icmp .ge 209, .aload 0, .getfield 3, .iload 4, .iload 6, .ifCond .ne 80, .iload 7, .goto 86] ++ m_fl (s_2.drop 3) from rfl).trans (by rw [fl_2_3]; rfl)
noncomputable def k_2_10 : List Instr := .iload 5 :: .iload 2 :: .if_icmp .ge 215 :: .iload 5 :: .aload 0 :: .getfield 2 :: .if_icmp .ge 215 :: .aload 0 :: .getfield 0 :: .iload 5 :: .iaload :: .istore 6 :: .aload 0 :: .getfield 1 :: .iload 5 :: .iaload :: .istore 7 :: .iload 6 :: .ifCond .eq 54 :: .iload 6 :: .iconst 1 :: .if_icmp .ne 93 :: k_2_54
theorem fl_2_1 : m_fl (s_2.drop 1) = k_2_10 := (show m_fl (s_2.drop 1) = [.iload 5, .iload 2, .if_icmp .ge 215, .iload 5, .aload 0, .getfield 2, .if_icmp .ge 215, .aload 0, .getfield 0, .iload 5, .iaload, .istore 6, .aload 0, .getfield 1, .iload 5, .iaload, .istore 7, .iload 6, .ifCond .eq 54, .iload 6, .iconst 1, .if_icmp .ne 93] ++ m_fl (s_2.drop 2) from rfl).trans (by rw [fl_2_2]; rfl)
noncomputable def k_2_0 : List Instr := .iconst 0 :: .istore 4 :: .iload 1 :: .iconst 0 :: .invokestatic 9002 :: .istore 5 :: k_2_10
theorem fl_2_0 : m_fl (s_2.drop 0) = k_2_0 := (show m_fl (s_2.drop 0) = [.iconst 0, .istore 4, .iload 1, .iconst 0, .invokestatic 9002, .istore 5] ++ m_fl (s_2.drop 1) from rfl).trans (by rw [fl_2_1]; rfl)
theorem tn_2_0 {L : Nat} {xs : Nat → Int32} : m_tg (p_P L xs) 2 0 = k_2_0 := (show m_tgl s_2 0 = m_fl (s_2.drop 0) from rfl).trans fl_2_0
theorem tg_2_10 {L : Nat} {xs : Nat → Int32} : m_tg (p_P L xs) 2 10 = k_2_10 := (show m_tgl s_2 10 = m_fl (s_2.drop 1) from rfl).trans fl_2_1
theorem tg_2_54 {L : Nat} {xs : Nat → Int32} : m_tg (p_P L xs) 2 54 = k_2_54 := (show m_tgl s_2 54 = m_fl (s_2.drop 2) from rfl).trans fl_2_2
theorem tg_2_80 {L : Nat} {xs : Nat → Int32} : m_tg (p_P L xs) 2 80 = k_2_80 := (show m_tgl s_2 80 = m_fl (s_2.drop 3) from rfl).trans fl_2_3
theorem tg_2_86 {L : Nat} {xs : Nat → Int32} : m_tg (p_P L xs) 2 86 = k_2_86 := (show m_tgl s_2 86 = m_fl (s_2.drop 4) from rfl).trans fl_2_4
theorem tg_2_93 {L : Nat} {xs : Nat → Int32} : m_tg (p_P L xs) 2 93 = k_2_93 := (show m_tgl s_2 93 = m_fl (s_2.drop 5) from rfl).trans fl_2_5
theorem tg_2_136 {L : Nat} {xs : Nat → Int32} : m_tg (p_P L xs) 2 136 = k_2_136 := (show m_tgl s_2 136 = m_fl (s_2.drop 6) from rfl).trans fl_2_6
theorem tg_2_170 {L : Nat} {xs : Nat → Int32} : m_tg (p_P L xs) 2 170 = k_2_170 := (show m_tgl s_2 170 = m_fl (s_2.drop 7) from rfl).trans fl_2_7
theorem tg_2_209 {L : Nat} {xs : Nat → Int32} : m_tg (p_P L xs) 2 209 = k_2_209 := (show m_tgl s_2 209 = m_fl (s_2.drop 8) from rfl).trans fl_2_8
theorem tg_2_215 {L : Nat} {xs : Nat → Int32} : m_tg (p_P L xs) 2 215 = k_2_215 := (show m_tgl s_2 215 = m_fl (s_2.drop 9) from rfl).trans fl_2_9
theorem tg_2_232 {L : Nat} {xs : Nat → Int32} : m_tg (p_P L xs) 2 232 = k_2_232 := (show m_tgl s_2 232 = m_fl (s_2.drop 10) from rfl).trans fl_2_10
theorem tg_2_233 {L : Nat} {xs : Nat → Int32} : m_tg (p_P L xs) 2 233 = k_2_233 := (show m_tgl s_2 233 = m_fl (s_2.drop 11) from rfl).trans fl_2_11
noncomputable def k_3_17 : List Instr := .ireturn :: []
theorem fl_3_2 : m_fl (s_3.drop 2) = k_3_17 := rfl
noncomputable def k_3_16 : List Instr := .iconst 0 :: k_3_17
theorem fl_3_1 : m_fl (s_3.drop 1) = k_3_16 := (show m_fl (s_3.drop 1) = [.iconst 0] ++ m_fl (s_3.drop 2) from rfl).trans (by rw [fl_3_2]; rfl)
noncomputable def k_3_0 : List Instr := .iload 1 :: .ifCond .lt 16 :: .iload 1 :: .aload 0 :: .ldc_w 100 :: .if_icmp .ge 16 :: .aload 0 :: .iload 1 :: .iaload :: .goto 17 :: k_3_16
theorem fl_3_0 : m_fl (s_3.drop 0) = k_3_0 := (show m_fl (s_3.drop 0) = [.iload 1, .ifCond .lt 16, .iload 1, .aload 0, .ldc_w 100, .if_icmp .ge 16, .aload 0, .iload 1, .iaload, .goto 17] ++ m_fl (s_3.drop 1) from rfl).trans (by rw [fl_3_1]; rfl)
theorem tn_3_0 {L : Nat} {xs : Nat → Int32} : m_tg (p_P L xs) 3 0 = k_3_0 := (show m_tgl s_3 0 = m_fl (s_3.drop 0) from rfl).trans fl_3_0
theorem tg_3_16 {L : Nat} {xs : Nat → Int32} : m_tg (p_P L xs) 3 16 = k_3_16 := (show m_tgl s_3 16 = m_fl (s_3.drop 1) from rfl).trans fl_3_1
theorem tg_3_17 {L : Nat} {xs : Nat → Int32} : m_tg (p_P L xs) 3 17 = k_3_17 := (show m_tgl s_3 17 = m_fl (s_3.drop 2) from rfl).trans fl_3_2
noncomputable def k_4_101 : List Instr := .iconst 0 :: .ireturn :: []
theorem fl_4_15 : m_fl (s_4.drop 15) = k_4_101 := rfl
noncomputable def k_4_97 : List Instr := .iload 1 :: .iload 2 :: .ior :: .ireturn :: k_4_101
theorem fl_4_14 : m_fl (s_4.drop 14) = k_4_97 := (show m_fl (s_4.drop 14) = [.iload 1, .iload 2, .ior, .ireturn] ++ m_fl (s_4.drop 15) from rfl).trans (by rw [fl_4_15]; rfl)
noncomputable def k_4_93 : List Instr := .iload 1 :: .iload 2 :: .iand :: .ireturn :: k_4_97
theorem fl_4_13 : m_fl (s_4.drop 13) = k_4_93 := (show m_fl (s_4.drop 13) = [.iload 1, .iload 2, .iand, .ireturn] ++ m_fl (s_4.drop 14) from rfl).trans (by rw [fl_4_14]; rfl)
noncomputable def k_4_92 : List Instr := .ireturn :: k_4_93
theorem fl_4_12 : m_fl (s_4.drop 12) = k_4_92 := (show m_fl (s_4.drop 12) = [.ireturn] ++ m_fl (s_4.drop 13) from rfl).trans (by rw [fl_4_13]; rfl)
noncomputable def k_4_91 : List Instr := .iconst 0 :: k_4_92
theorem fl_4_11 : m_fl (s_4.drop 11) = k_4_91 := (show m_fl (s_4.drop 11) = [.iconst 0] ++ m_fl (s_4.drop 12) from rfl).trans (by rw [fl_4_12]; rfl)
noncomputable def k_4_82 : List Instr := .iload 1 :: .iload 2 :: .if_icmp .le 91 :: .iconst 1 :: .goto 92 :: k_4_91
theorem fl_4_10 : m_fl (s_4.drop 10) = k_4_82 := (show m_fl (s_4.drop 10) = [.iload 1, .iload 2, .if_icmp .le 91, .iconst 1, .goto 92] ++ m_fl (s_4.drop 11) from rfl).trans (by rw [fl_4_11]; rfl)
noncomputable def k_4_81 : List Instr := .ireturn :: k_4_82
theorem fl_4_9 : m_fl (s_4.drop 9) = k_4_81 := (show m_fl (s_4.drop 9) = [.ireturn] ++ m_fl (s_4.drop 10) from rfl).trans (by rw [fl_4_10]; rfl)
noncomputable def k_4_80 : List Instr := .iconst 0 :: k_4_81
theorem fl_4_8 : m_fl (s_4.drop 8) = k_4_80 := (show m_fl (s_4.drop 8) = [.iconst 0] ++ m_fl (s_4.drop 9) from rfl).trans (by rw [fl_4_9]; rfl)
noncomputable def k_4_71 : List Instr := .iload 1 :: .iload 2 :: .if_icmp .ne 80 :: .iconst 1 :: .goto 81 :: k_4_80
theorem fl_4_7 : m_fl (s_4.drop 7) = k_4_71 := (show m_fl (s_4.drop 7) = [.iload 1, .iload 2, .if_icmp .ne 80, .iconst 1, .goto 81] ++ m_fl (s_4.drop 8) from rfl).trans (by rw [fl_4_8]; rfl)
noncomputable def k_4_70 : List Instr := .ireturn :: k_4_71
theorem fl_4_6 : m_fl (s_4.drop 6) = k_4_70 := (show m_fl (s_4.drop 6) = [.ireturn] ++ m_fl (s_4.drop 7) from rfl).trans (by rw [fl_4_7]; rfl)
noncomputable def k_4_69 : List Instr := .iconst 0 :: k_4_70
theorem fl_4_5 : m_fl (s_4.drop 5) = k_4_69 := (show m_fl (s_4.drop 5) = [.iconst 0] ++ m_fl (s_4.drop 6) from rfl).trans (by rw [fl_4_6]; rfl)
noncomputable def k_4_60 : List Instr := .iload 1 :: .iload 2 :: .if_icmp .ge 69 :: .iconst 1 :: .goto 70 :: k_4_69
theorem fl_4_4 : m_fl (s_4.drop 4) = k_4_60 := (show m_fl (s_4.drop 4) = [.iload 1, .iload 2, .if_icmp .ge 69, .iconst 1, .goto 70] ++ m_fl (s_4.drop 5) from rfl).trans (by rw [fl_4_5]; rfl)
noncomputable def k_4_56 : List Instr := .iload 1 :: .iload 2 :: .imul :: .ireturn :: k_4_60
theorem fl_4_3 : m_fl (s_4.drop 3) = k_4_56 := (show m_fl (s_4.drop 3) = [.iload 1, .iload 2, .imul, .ireturn] ++ m_fl (s_4.drop 4) from rfl).trans (by rw [fl_4_4]; rfl)
noncomputable def k_4_52 : List Instr := .iload 1 :: .iload 2 :: .isub :: .ireturn :: k_4_56
theorem fl_4_2 : m_fl (s_4.drop 2) = k_4_52 := (show m_fl (s_4.drop 2) = [.iload 1, .iload 2, .isub, .ireturn] ++ m_fl (s_4.drop 3) from rfl).trans (by rw [fl_4_3]; rfl)
noncomputable def k_4_48 : List Instr := .iload 1 :: .iload 2 :: .iadd :: .ireturn :: k_4_52
theorem fl_4_1 : m_fl (s_4.drop 1) = k_4_48 := (show m_fl (s_4.drop 1) = [.iload 1, .iload 2, .iadd, .ireturn] ++ m_fl (s_4.drop 2) from rfl).trans (by rw [fl_4_2]; rfl)
noncomputable def k_4_0 : List Instr := .iload 0 :: .tableswitch 101 4 11 #[48, 52, 56, 60, 71, 82, 93, 97] :: k_4_48
theorem fl_4_0 : m_fl (s_4.drop 0) = k_4_0 := (show m_fl (s_4.drop 0) = [.iload 0, .tableswitch 101 4 11 #[48, 52, 56, 60, 71, 82, 93, 97]] ++ m_fl (s_4.drop 1) from rfl).trans (by rw [fl_4_1]; rfl)
theorem tn_4_0 {L : Nat} {xs : Nat → Int32} : m_tg (p_P L xs) 4 0 = k_4_0 := (show m_tgl s_4 0 = m_fl (s_4.drop 0) from rfl).trans fl_4_0
theorem tg_4_48 {L : Nat} {xs : Nat → Int32} : m_tg (p_P L xs) 4 48 = k_4_48 := (show m_tgl s_4 48 = m_fl (s_4.drop 1) from rfl).trans fl_4_1
theorem tg_4_52 {L : Nat} {xs : Nat → Int32} : m_tg (p_P L xs) 4 52 = k_4_52 := (show m_tgl s_4 52 = m_fl (s_4.drop 2) from rfl).trans fl_4_2
theorem tg_4_56 {L : Nat} {xs : Nat → Int32} : m_tg (p_P L xs) 4 56 = k_4_56 := (show m_tgl s_4 56 = m_fl (s_4.drop 3) from rfl).trans fl_4_3
theorem tg_4_60 {L : Nat} {xs : Nat → Int32} : m_tg (p_P L xs) 4 60 = k_4_60 := (show m_tgl s_4 60 = m_fl (s_4.drop 4) from rfl).trans fl_4_4
theorem tg_4_69 {L : Nat} {xs : Nat → Int32} : m_tg (p_P L xs) 4 69 = k_4_69 := (show m_tgl s_4 69 = m_fl (s_4.drop 5) from rfl).trans fl_4_5
theorem tg_4_70 {L : Nat} {xs : Nat → Int32} : m_tg (p_P L xs) 4 70 = k_4_70 := (show m_tgl s_4 70 = m_fl (s_4.drop 6) from rfl).trans fl_4_6
theorem tg_4_71 {L : Nat} {xs : Nat → Int32} : m_tg (p_P L xs) 4 71 = k_4_71 := (show m_tgl s_4 71 = m_fl (s_4.drop 7) from rfl).trans fl_4_7
theorem tg_4_80 {L : Nat} {xs : Nat → Int32} : m_tg (p_P L xs) 4 80 = k_4_80 := (show m_tgl s_4 80 = m_fl (s_4.drop 8) from rfl).trans fl_4_8
theorem tg_4_81 {L : Nat} {xs : Nat → Int32} : m_tg (p_P L xs) 4 81 = k_4_81 := (show m_tgl s_4 81 = m_fl (s_4.drop 9) from rfl).trans fl_4_9
theorem tg_4_82 {L : Nat} {xs : Nat → Int32} : m_tg (p_P L xs) 4 82 = k_4_82 := (show m_tgl s_4 82 = m_fl (s_4.drop 10) from rfl).trans fl_4_10
theorem tg_4_91 {L : Nat} {xs : Nat → Int32} : m_tg (p_P L xs) 4 91 = k_4_91 := (show m_tgl s_4 91 = m_fl (s_4.drop 11) from rfl).trans fl_4_11
theorem tg_4_92 {L : Nat} {xs : Nat → Int32} : m_tg (p_P L xs) 4 92 = k_4_92 := (show m_tgl s_4 92 = m_fl (s_4.drop 12) from rfl).trans fl_4_12
theorem tg_4_93 {L : Nat} {xs : Nat → Int32} : m_tg (p_P L xs) 4 93 = k_4_93 := (show m_tgl s_4 93 = m_fl (s_4.drop 13) from rfl).trans fl_4_13
theorem tg_4_97 {L : Nat} {xs : Nat → Int32} : m_tg (p_P L xs) 4 97 = k_4_97 := (show m_tgl s_4 97 = m_fl (s_4.drop 14) from rfl).trans fl_4_14
theorem tg_4_101 {L : Nat} {xs : Nat → Int32} : m_tg (p_P L xs) 4 101 = k_4_101 := (show m_tgl s_4 101 = m_fl (s_4.drop 15) from rfl).trans fl_4_15
noncomputable def k_5_0 : List Instr := .aload 0 :: .invokespecial 9000 :: .aload 0 :: .iconst (-1) :: .putfield 64 :: .aload 0 :: .iconst 0 :: .putfield 65 :: .aload 0 :: .iconst 1 :: .putfield 66 :: .aload 0 :: .iconst 0 :: .putfield 67 :: .aload 0 :: .iconst 0 :: .putfield 68 :: .aload 0 :: .iconst 0 :: .putfield 69 :: .aload 0 :: .iconst 0 :: .putfield 70 :: .aload 0 :: .iconst 0 :: .putfield 71 :: .return_ :: []
theorem fl_5_0 : m_fl (s_5.drop 0) = k_5_0 := rfl
theorem tn_5_0 {L : Nat} {xs : Nat → Int32} : m_tg (p_P L xs) 5 0 = k_5_0 := (show m_tgl s_5 0 = m_fl (s_5.drop 0) from rfl).trans fl_5_0
noncomputable def k_6_0 : List Instr := .aload 0 :: .invokespecial 9000 :: .aload 0 :: .iconst 0 :: .putfield 129 :: .aload 0 :: .iconst (-1) :: .putfield 130 :: .aload 0 :: .iconst 0 :: .putfield 131 :: .aload 0 :: .iconst 0 :: .putfield 132 :: .aload 0 :: .iconst 14 :: .newarray .int :: .putfield 133 :: .aload 0 :: .iconst 4 :: .newarray .int :: .putfield 134 :: .aload 0 :: .iconst 20 :: .newarray .int :: .putfield 135 :: .aload 0 :: .iconst 0 :: .putfield 136 :: .aload 0 :: .iconst (-1) :: .putfield 137 :: .aload 0 :: .iconst (-1) :: .putfield 138 :: .aload 0 :: .iconst 0 :: .putfield 139 :: .aload 0 :: .iconst (2147483647) :: .putfield 140 :: .aload 0 :: .iconst 0 :: .putfield 141 :: .aload 0 :: .iconst 0 :: .putfield 142 :: .aload 0 :: .iconst 0 :: .putfield 143 :: .aload 0 :: .iload 1 :: .putfield 128 :: .return_ :: []
theorem fl_6_0 : m_fl (s_6.drop 0) = k_6_0 := rfl
theorem tn_6_0 {L : Nat} {xs : Nat → Int32} : m_tg (p_P L xs) 6 0 = k_6_0 := (show m_tgl s_6 0 = m_fl (s_6.drop 0) from rfl).trans fl_6_0
noncomputable def k_7_0 : List Instr := .aload 0 :: .aload 1 :: .getfield 129 :: .putfield 129 :: .aload 0 :: .aload 1 :: .getfield 130 :: .putfield 130 :: .aload 0 :: .aload 1 :: .getfield 131 :: .putfield 131 :: .aload 0 :: .aload 1 :: .getfield 132 :: .putfield 132 :: .aload 1 :: .getfield 133 :: .iconst 0 :: .aload 0 :: .getfield 133 :: .iconst 0 :: .iconst 14 :: .invokestatic 9003 :: .aload 1 :: .getfield 134 :: .iconst 0 :: .aload 0 :: .getfield 134 :: .iconst 0 :: .iconst 4 :: .invokestatic 9003 :: .aload 1 :: .getfield 135 :: .iconst 0 :: .aload 0 :: .getfield 135 :: .iconst 0 :: .iconst 20 :: .invokestatic 9003 :: .aload 0 :: .aload 1 :: .getfield 136 :: .putfield 136 :: .aload 0 :: .aload 1 :: .getfield 137 :: .putfield 137 :: .aload 0 :: .aload 1 :: .getfield 138 :: .putfield 138 :: .aload 0 :: .aload 1 :: .getfield 139 :: .putfield 139 :: .aload 0 :: .aload 1 :: .getfield 140 :: .putfield 140 :: .aload 0 :: .aload 1 :: .getfield 141 :: .putfield 141 :: .aload 0 :: .aload 1 :: .getfield 142 :: .putfield 142 :: .aload 0 :: .aload 1 :: .getfield 143 :: .putfield 143 :: .return_ :: []
theorem fl_7_0 : m_fl (s_7.drop 0) = k_7_0 := rfl
theorem tn_7_0 {L : Nat} {xs : Nat → Int32} : m_tg (p_P L xs) 7 0 = k_7_0 := (show m_tgl s_7 0 = m_fl (s_7.drop 0) from rfl).trans fl_7_0
noncomputable def k_8_20 : List Instr := .aload 0 :: .getfield 133 :: .iload 1 :: .iaload :: .ireturn :: []
theorem fl_8_2 : m_fl (s_8.drop 2) = k_8_20 := rfl
noncomputable def k_8_10 : List Instr := .invokedynamic 0 :: k_8_20
theorem fl_8_1 : m_fl (s_8.drop 1) = k_8_10 := (show m_fl (s_8.drop 1) = [.invokedynamic 0] ++ m_fl (s_8.drop 2) from rfl).trans (by rw [fl_8_2]; rfl)
noncomputable def k_8_0 : List Instr := .iload 1 :: .ifCond .lt 10 :: .iload 1 :: .iconst 8 :: .if_icmp .lt 20 :: k_8_10
theorem fl_8_0 : m_fl (s_8.drop 0) = k_8_0 := (show m_fl (s_8.drop 0) = [.iload 1, .ifCond .lt 10, .iload 1, .iconst 8, .if_icmp .lt 20] ++ m_fl (s_8.drop 1) from rfl).trans (by rw [fl_8_1]; rfl)
theorem tn_8_0 {L : Nat} {xs : Nat → Int32} : m_tg (p_P L xs) 8 0 = k_8_0 := (show m_tgl s_8 0 = m_fl (s_8.drop 0) from rfl).trans fl_8_0
theorem tg_8_10 {L : Nat} {xs : Nat → Int32} : m_tg (p_P L xs) 8 10 = k_8_10 := (show m_tgl s_8 10 = m_fl (s_8.drop 1) from rfl).trans fl_8_1
theorem tg_8_20 {L : Nat} {xs : Nat → Int32} : m_tg (p_P L xs) 8 20 = k_8_20 := (show m_tgl s_8 20 = m_fl (s_8.drop 2) from rfl).trans fl_8_2
noncomputable def k_9_19 : List Instr := .aload 0 :: .getfield 133 :: .iconst 8 :: .iload 1 :: .iadd :: .iaload :: .ireturn :: []
theorem fl_9_2 : m_fl (s_9.drop 2) = k_9_19 := rfl
noncomputable def k_9_9 : List Instr := .invokedynamic 0 :: k_9_19
theorem fl_9_1 : m_fl (s_9.drop 1) = k_9_9 := (show m_fl (s_9.drop 1) = [.invokedynamic 0] ++ m_fl (s_9.drop 2) from rfl).trans (by rw [fl_9_2]; rfl)
noncomputable def k_9_0 : List Instr := .iload 1 :: .ifCond .lt 9 :: .iload 1 :: .iconst 4 :: .if_icmp .lt 19 :: k_9_9
theorem fl_9_0 : m_fl (s_9.drop 0) = k_9_0 := (show m_fl (s_9.drop 0) = [.iload 1, .ifCond .lt 9, .iload 1, .iconst 4, .if_icmp .lt 19] ++ m_fl (s_9.drop 1) from rfl).trans (by rw [fl_9_1]; rfl)
theorem tn_9_0 {L : Nat} {xs : Nat → Int32} : m_tg (p_P L xs) 9 0 = k_9_0 := (show m_tgl s_9 0 = m_fl (s_9.drop 0) from rfl).trans fl_9_0
theorem tg_9_9 {L : Nat} {xs : Nat → Int32} : m_tg (p_P L xs) 9 9 = k_9_9 := (show m_tgl s_9 9 = m_fl (s_9.drop 1) from rfl).trans fl_9_1
theorem tg_9_19 {L : Nat} {xs : Nat → Int32} : m_tg (p_P L xs) 9 19 = k_9_19 := (show m_tgl s_9 19 = m_fl (s_9.drop 2) from rfl).trans fl_9_2
noncomputable def k_10_23 : List Instr := .aload 0 :: .getfield 134 :: .iload 1 :: .iaload :: .ireturn :: []
theorem fl_10_2 : m_fl (s_10.drop 2) = k_10_23 := rfl
noncomputable def k_10_13 : List Instr := .invokedynamic 0 :: k_10_23
theorem fl_10_1 : m_fl (s_10.drop 1) = k_10_13 := (show m_fl (s_10.drop 1) = [.invokedynamic 0] ++ m_fl (s_10.drop 2) from rfl).trans (by rw [fl_10_2]; rfl)
noncomputable def k_10_0 : List Instr := .iload 1 :: .ifCond .lt 13 :: .iload 1 :: .aload 0 :: .getfield 134 :: .ldc_w 100 :: .if_icmp .lt 23 :: k_10_13
theorem fl_10_0 : m_fl (s_10.drop 0) = k_10_0 := (show m_fl (s_10.drop 0) = [.iload 1, .ifCond .lt 13, .iload 1, .aload 0, .getfield 134, .ldc_w 100, .if_icmp .lt 23] ++ m_fl (s_10.drop 1) from rfl).trans (by rw [fl_10_1]; rfl)
theorem tn_10_0 {L : Nat} {xs : Nat → Int32} : m_tg (p_P L xs) 10 0 = k_10_0 := (show m_tgl s_10 0 = m_fl (s_10.drop 0) from rfl).trans fl_10_0
theorem tg_10_13 {L : Nat} {xs : Nat → Int32} : m_tg (p_P L xs) 10 13 = k_10_13 := (show m_tgl s_10 13 = m_fl (s_10.drop 1) from rfl).trans fl_10_1
theorem tg_10_23 {L : Nat} {xs : Nat → Int32} : m_tg (p_P L xs) 10 23 = k_10_23 := (show m_tgl s_10 23 = m_fl (s_10.drop 2) from rfl).trans fl_10_2
noncomputable def k_11_31 : List Instr := .ireturn :: []
theorem fl_11_2 : m_fl (s_11.drop 2) = k_11_31 := rfl
noncomputable def k_11_30 : List Instr := .iconst (-1) :: k_11_31
theorem fl_11_1 : m_fl (s_11.drop 1) = k_11_30 := (show m_fl (s_11.drop 1) = [.iconst (-1)] ++ m_fl (s_11.drop 2) from rfl).trans (by rw [fl_11_2]; rfl)
noncomputable def k_11_0 : List Instr := .iload 1 :: .ifCond .lt 30 :: .iload 1 :: .aload 0 :: .getfield 136 :: .if_icmp .ge 30 :: .iload 1 :: .aload 0 :: .getfield 135 :: .ldc_w 100 :: .if_icmp .ge 30 :: .aload 0 :: .getfield 135 :: .iload 1 :: .iaload :: .goto 31 :: k_11_30
theorem fl_11_0 : m_fl (s_11.drop 0) = k_11_0 := (show m_fl (s_11.drop 0) = [.iload 1, .ifCond .lt 30, .iload 1, .aload 0, .getfield 136, .if_icmp .ge 30, .iload 1, .aload 0, .getfield 135, .ldc_w 100, .if_icmp .ge 30, .aload 0, .getfield 135, .iload 1, .iaload, .goto 31] ++ m_fl (s_11.drop 1) from rfl).trans (by rw [fl_11_1]; rfl)
theorem tn_11_0 {L : Nat} {xs : Nat → Int32} : m_tg (p_P L xs) 11 0 = k_11_0 := (show m_tgl s_11 0 = m_fl (s_11.drop 0) from rfl).trans fl_11_0
theorem tg_11_30 {L : Nat} {xs : Nat → Int32} : m_tg (p_P L xs) 11 30 = k_11_30 := (show m_tgl s_11 30 = m_fl (s_11.drop 1) from rfl).trans fl_11_1
theorem tg_11_31 {L : Nat} {xs : Nat → Int32} : m_tg (p_P L xs) 11 31 = k_11_31 := (show m_tgl s_11 31 = m_fl (s_11.drop 2) from rfl).trans fl_11_2
noncomputable def k_12_17 : List Instr := .return_ :: []
theorem fl_12_1 : m_fl (s_12.drop 1) = k_12_17 := rfl
noncomputable def k_12_0 : List Instr := .iload 1 :: .ifCond .lt 17 :: .iload 1 :: .iconst 8 :: .if_icmp .ge 17 :: .aload 0 :: .getfield 133 :: .iload 1 :: .iload 2 :: .iastore :: k_12_17
theorem fl_12_0 : m_fl (s_12.drop 0) = k_12_0 := (show m_fl (s_12.drop 0) = [.iload 1, .ifCond .lt 17, .iload 1, .iconst 8, .if_icmp .ge 17, .aload 0, .getfield 133, .iload 1, .iload 2, .iastore] ++ m_fl (s_12.drop 1) from rfl).trans (by rw [fl_12_1]; rfl)
theorem tn_12_0 {L : Nat} {xs : Nat → Int32} : m_tg (p_P L xs) 12 0 = k_12_0 := (show m_tgl s_12 0 = m_fl (s_12.drop 0) from rfl).trans fl_12_0
theorem tg_12_17 {L : Nat} {xs : Nat → Int32} : m_tg (p_P L xs) 12 17 = k_12_17 := (show m_tgl s_12 17 = m_fl (s_12.drop 1) from rfl).trans fl_12_1
noncomputable def k_13_0 : List Instr := .aload 0 :: .getfield 133 :: .iconst 12 :: .iload 1 :: .iastore :: .aload 0 :: .getfield 133 :: .iconst 13 :: .iload 2 :: .iastore :: .return_ :: []
theorem fl_13_0 : m_fl (s_13.drop 0) = k_13_0 := rfl
theorem tn_13_0 {L : Nat} {xs : Nat → Int32} : m_tg (p_P L xs) 13 0 = k_13_0 := (show m_tgl s_13 0 = m_fl (s_13.drop 0) from rfl).trans fl_13_0
noncomputable def k_14_32 : List Instr := .return_ :: []
theorem fl_14_1 : m_fl (s_14.drop 1) = k_14_32 := rfl
noncomputable def k_14_0 : List Instr := .aload 0 :: .getfield 136 :: .aload 0 :: .getfield 135 :: .ldc_w 100 :: .if_icmp .ge 32 :: .aload 0 :: .getfield 135 :: .aload 0 :: .getfield 136 :: .iload 1 :: .iastore :: .aload 0 :: .dup :: .getfield 136 :: .iconst 1 :: .iadd :: .putfield 136 :: k_14_32
theorem fl_14_0 : m_fl (s_14.drop 0) = k_14_0 := (show m_fl (s_14.drop 0) = [.aload 0, .getfield 136, .aload 0, .getfield 135, .ldc_w 100, .if_icmp .ge 32, .aload 0, .getfield 135, .aload 0, .getfield 136, .iload 1, .iastore, .aload 0, .dup, .getfield 136, .iconst 1, .iadd, .putfield 136] ++ m_fl (s_14.drop 1) from rfl).trans (by rw [fl_14_1]; rfl)
theorem tn_14_0 {L : Nat} {xs : Nat → Int32} : m_tg (p_P L xs) 14 0 = k_14_0 := (show m_tgl s_14 0 = m_fl (s_14.drop 0) from rfl).trans fl_14_0
theorem tg_14_32 {L : Nat} {xs : Nat → Int32} : m_tg (p_P L xs) 14 32 = k_14_32 := (show m_tgl s_14 32 = m_fl (s_14.drop 1) from rfl).trans fl_14_1
noncomputable def k_15_0 : List Instr := .aload 0 :: .iconst 1 :: .putfield 129 :: .aload 0 :: .iload 1 :: .putfield 130 :: .aload 0 :: .invokevirtual 16 :: .return_ :: []
theorem fl_15_0 : m_fl (s_15.drop 0) = k_15_0 := rfl
theorem tn_15_0 {L : Nat} {xs : Nat → Int32} : m_tg (p_P L xs) 15 0 = k_15_0 := (show m_tgl s_15 0 = m_fl (s_15.drop 0) from rfl).trans fl_15_0
noncomputable def k_16_23 : List Instr := .return_ :: []
theorem fl_16_2 : m_fl (s_16.drop 2) = k_16_23 := rfl
noncomputable def k_16_2 : List Instr := .iload 1 :: .iconst 4 :: .if_icmp .ge 23 :: .aload 0 :: .getfield 133 :: .iconst 8 :: .iload 1 :: .iadd :: .iconst 0 :: .iastore :: .iinc 1 1 :: .goto 2 :: k_16_23
theorem fl_16_1 : m_fl (s_16.drop 1) = k_16_2 := (show m_fl (s_16.drop 1) = [.iload 1, .iconst 4, .if_icmp .ge 23, .aload 0, .getfield 133, .iconst 8, .iload 1, .iadd, .iconst 0, .iastore, .iinc 1 1, .goto 2] ++ m_fl (s_16.drop 2) from rfl).trans (by rw [fl_16_2]; rfl)
noncomputable def k_16_0 : List Instr := .iconst 0 :: .istore 1 :: k_16_2
theorem fl_16_0 : m_fl (s_16.drop 0) = k_16_0 := (show m_fl (s_16.drop 0) = [.iconst 0, .istore 1] ++ m_fl (s_16.drop 1) from rfl).trans (by rw [fl_16_1]; rfl)
theorem tn_16_0 {L : Nat} {xs : Nat → Int32} : m_tg (p_P L xs) 16 0 = k_16_0 := (show m_tgl s_16 0 = m_fl (s_16.drop 0) from rfl).trans fl_16_0
theorem tg_16_2 {L : Nat} {xs : Nat → Int32} : m_tg (p_P L xs) 16 2 = k_16_2 := (show m_tgl s_16 2 = m_fl (s_16.drop 1) from rfl).trans fl_16_1
theorem tg_16_23 {L : Nat} {xs : Nat → Int32} : m_tg (p_P L xs) 16 23 = k_16_23 := (show m_tgl s_16 23 = m_fl (s_16.drop 2) from rfl).trans fl_16_2
noncomputable def k_17_0 : List Instr := .aload 0 :: .getfield 133 :: .iconst 8 :: .aload 0 :: .getfield 134 :: .iconst 0 :: .iconst 4 :: .invokestatic 9003 :: .return_ :: []
theorem fl_17_0 : m_fl (s_17.drop 0) = k_17_0 := rfl
theorem tn_17_0 {L : Nat} {xs : Nat → Int32} : m_tg (p_P L xs) 17 0 = k_17_0 := (show m_tgl s_17 0 = m_fl (s_17.drop 0) from rfl).trans fl_17_0
noncomputable def k_18_0 : List Instr := .aload 0 :: .getfield 134 :: .iconst 0 :: .aload 0 :: .getfield 133 :: .iconst 8 :: .iconst 4 :: .invokestatic 9003 :: .return_ :: []
theorem fl_18_0 : m_fl (s_18.drop 0) = k_18_0 := rfl
theorem tn_18_0 {L : Nat} {xs : Nat → Int32} : m_tg (p_P L xs) 18 0 = k_18_0 := (show m_tgl s_18 0 = m_fl (s_18.drop 0) from rfl).trans fl_18_0
noncomputable def k_19_0 : List Instr := .aload 0 :: .invokespecial 9000 :: .aload 0 :: .iconst 10 :: .anewarray 10 :: .putfield 192 :: .aload 0 :: .iconst 0 :: .putfield 193 :: .aload 0 :: .iconst 0 :: .putfield 194 :: .return_ :: []
theorem fl_19_0 : m_fl (s_19.drop 0) = k_19_0 := rfl
theorem tn_19_0 {L : Nat} {xs : Nat → Int32} : m_tg (p_P L xs) 19 0 = k_19_0 := (show m_tgl s_19 0 = m_fl (s_19.drop 0) from rfl).trans fl_19_0
noncomputable def k_20_0 : List Instr := .aload 0 :: .iconst 0 :: .putfield 194 :: .return_ :: []
theorem fl_20_0 : m_fl (s_20.drop 0) = k_20_0 := rfl
theorem tn_20_0 {L : Nat} {xs : Nat → Int32} : m_tg (p_P L xs) 20 0 = k_20_0 := (show m_tgl s_20 0 = m_fl (s_20.drop 0) from rfl).trans fl_20_0
noncomputable def k_21_36 : List Instr := .aload 2 :: .aload 1 :: .invokevirtual 78 :: .aload 0 :: .aload 0 :: .getfield 193 :: .iconst 1 :: .iadd :: .iconst 10 :: .irem :: .putfield 193 :: .aload 0 :: .aload 0 :: .getfield 194 :: .iconst 1 :: .iadd :: .iconst 10 :: .invokestatic 9001 :: .putfield 194 :: .return_ :: []
theorem fl_21_1 : m_fl (s_21.drop 1) = k_21_36 := rfl
noncomputable def k_21_0 : List Instr := .aload 0 :: .getfield 192 :: .aload 0 :: .getfield 193 :: .checkcast 10 :: .astore 2 :: .aload 2 :: .ifnonnull 36 :: .new 10 :: .dup :: .aload 1 :: .getfield 640 :: .invokespecial 77 :: .astore 2 :: .aload 0 :: .getfield 192 :: .aload 0 :: .getfield 193 :: .aload 2 :: .instanceof 10 :: k_21_36
theorem fl_21_0 : m_fl (s_21.drop 0) = k_21_0 := (show m_fl (s_21.drop 0) = [.aload 0, .getfield 192, .aload 0, .getfield 193, .checkcast 10, .astore 2, .aload 2, .ifnonnull 36, .new 10, .dup, .aload 1, .getfield 640, .invokespecial 77, .astore 2, .aload 0, .getfield 192, .aload 0, .getfield 193, .aload 2, .instanceof 10] ++ m_fl (s_21.drop 1) from rfl).trans (by rw [fl_21_1]; rfl)
theorem tn_21_0 {L : Nat} {xs : Nat → Int32} : m_tg (p_P L xs) 21 0 = k_21_0 := (show m_tgl s_21 0 = m_fl (s_21.drop 0) from rfl).trans fl_21_0
theorem tg_21_36 {L : Nat} {xs : Nat → Int32} : m_tg (p_P L xs) 21 36 = k_21_36 := (show m_tgl s_21 36 = m_fl (s_21.drop 1) from rfl).trans fl_21_1
noncomputable def k_22_54 : List Instr := .aload 0 :: .getfield 194 :: .ireturn :: []
theorem fl_22_2 : m_fl (s_22.drop 2) = k_22_54 := rfl
noncomputable def k_22_9 : List Instr := .aload 0 :: .aload 0 :: .getfield 193 :: .iconst 10 :: .iadd :: .iconst 1 :: .isub :: .iconst 10 :: .irem :: .putfield 193 :: .aload 0 :: .dup :: .getfield 194 :: .iconst 1 :: .isub :: .putfield 194 :: .aload 0 :: .getfield 192 :: .aload 0 :: .getfield 193 :: .checkcast 10 :: .astore 2 :: .aload 2 :: .ifnull 54 :: .aload 1 :: .aload 2 :: .invokevirtual 78 :: k_22_54
theorem fl_22_1 : m_fl (s_22.drop 1) = k_22_9 := (show m_fl (s_22.drop 1) = [.aload 0, .aload 0, .getfield 193, .iconst 10, .iadd, .iconst 1, .isub, .iconst 10, .irem, .putfield 193, .aload 0, .dup, .getfield 194, .iconst 1, .isub, .putfield 194, .aload 0, .getfield 192, .aload 0, .getfield 193, .checkcast 10, .astore 2, .aload 2, .ifnull 54, .aload 1, .aload 2, .invokevirtual 78] ++ m_fl (s_22.drop 2) from rfl).trans (by rw [fl_22_2]; rfl)
noncomputable def k_22_0 : List Instr := .aload 0 :: .getfield 194 :: .ifCond .ne 9 :: .iconst (-1) :: .ireturn :: k_22_9
theorem fl_22_0 : m_fl (s_22.drop 0) = k_22_0 := (show m_fl (s_22.drop 0) = [.aload 0, .getfield 194, .ifCond .ne 9, .iconst (-1), .ireturn] ++ m_fl (s_22.drop 1) from rfl).trans (by rw [fl_22_1]; rfl)
theorem tn_22_0 {L : Nat} {xs : Nat → Int32} : m_tg (p_P L xs) 22 0 = k_22_0 := (show m_tgl s_22 0 = m_fl (s_22.drop 0) from rfl).trans fl_22_0
theorem tg_22_9 {L : Nat} {xs : Nat → Int32} : m_tg (p_P L xs) 22 9 = k_22_9 := (show m_tgl s_22 9 = m_fl (s_22.drop 1) from rfl).trans fl_22_1
theorem tg_22_54 {L : Nat} {xs : Nat → Int32} : m_tg (p_P L xs) 22 54 = k_22_54 := (show m_tgl s_22 54 = m_fl (s_22.drop 2) from rfl).trans fl_22_2
noncomputable def k_23_0 : List Instr := .aload 0 :: .invokespecial 9000 :: .aload 0 :: .iconst 200 :: .newarray .int :: .putfield 256 :: .aload 0 :: .iconst 200 :: .newarray .int :: .putfield 257 :: .aload 0 :: .iconst 200 :: .newarray .int :: .putfield 258 :: .aload 0 :: .iconst 200 :: .newarray .int :: .putfield 259 :: .aload 0 :: .iconst 9 :: .newarray .int :: .putfield 260 :: .aload 0 :: .iconst 0 :: .putfield 261 :: .aload 0 :: .iconst 0 :: .putfield 262 :: .return_ :: []
theorem fl_23_0 : m_fl (s_23.drop 0) = k_23_0 := rfl
theorem tn_23_0 {L : Nat} {xs : Nat → Int32} : m_tg (p_P L xs) 23 0 = k_23_0 := (show m_tgl s_23 0 = m_fl (s_23.drop 0) from rfl).trans fl_23_0
noncomputable def k_24_0 : List Instr := .aload 1 :: .getfield 256 :: .iconst 0 :: .aload 0 :: .getfield 256 :: .iconst 0 :: .iconst 200 :: .invokestatic 9003 :: .aload 1 :: .getfield 257 :: .iconst 0 :: .aload 0 :: .getfield 257 :: .iconst 0 :: .iconst 200 :: .invokestatic 9003 :: .aload 1 :: .getfield 258 :: .iconst 0 :: .aload 0 :: .getfield 258 :: .iconst 0 :: .iconst 200 :: .invokestatic 9003 :: .aload 1 :: .getfield 259 :: .iconst 0 :: .aload 0 :: .getfield 259 :: .iconst 0 :: .iconst 200 :: .invokestatic 9003 :: .aload 1 :: .getfield 260 :: .iconst 0 :: .aload 0 :: .getfield 260 :: .iconst 0 :: .iconst 9 :: .invokestatic 9003 :: .aload 0 :: .aload 1 :: .getfield 261 :: .putfield 261 :: .aload 0 :: .aload 1 :: .getfield 262 :: .putfield 262 :: .return_ :: []
theorem fl_24_0 : m_fl (s_24.drop 0) = k_24_0 := rfl
theorem tn_24_0 {L : Nat} {xs : Nat → Int32} : m_tg (p_P L xs) 24 0 = k_24_0 := (show m_tgl s_24 0 = m_fl (s_24.drop 0) from rfl).trans fl_24_0
noncomputable def k_25_108 : List Instr := .return_ :: []
theorem fl_25_3 : m_fl (s_25.drop 3) = k_25_108 := rfl
noncomputable def k_25_85 : List Instr := .iload 2 :: .ifCond .lt 108 :: .iload 2 :: .aload 0 :: .getfield 260 :: .ldc_w 100 :: .if_icmp .ge 108 :: .aload 0 :: .getfield 260 :: .iload 2 :: .dup2 :: .iaload :: .iconst 1 :: .iadd :: .iastore :: k_25_108
theorem fl_25_2 : m_fl (s_25.drop 2) = k_25_85 := (show m_fl (s_25.drop 2) = [.iload 2, .ifCond .lt 108, .iload 2, .aload 0, .getfield 260, .ldc_w 100, .if_icmp .ge 108, .aload 0, .getfield 260, .iload 2, .dup2, .iaload, .iconst 1, .iadd, .iastore] ++ m_fl (s_25.drop 3) from rfl).trans (by rw [fl_25_3]; rfl)
noncomputable def k_25_71 : List Instr := .aload 0 :: .aload 0 :: .getfield 261 :: .iconst 1 :: .iadd :: .iconst 200 :: .irem :: .putfield 261 :: k_25_85
theorem fl_25_1 : m_fl (s_25.drop 1) = k_25_71 := (show m_fl (s_25.drop 1) = [.aload 0, .aload 0, .getfield 261, .iconst 1, .iadd, .iconst 200, .irem, .putfield 261] ++ m_fl (s_25.drop 2) from rfl).trans (by rw [fl_25_2]; rfl)
noncomputable def k_25_0 : List Instr := .aload 0 :: .getfield 261 :: .aload 0 :: .getfield 262 :: .iadd :: .iconst 200 :: .irem :: .istore 5 :: .aload 0 :: .getfield 256 :: .iload 5 :: .iload 1 :: .iastore :: .aload 0 :: .getfield 257 :: .iload 5 :: .iload 2 :: .iastore :: .aload 0 :: .getfield 258 :: .iload 5 :: .iload 3 :: .iastore :: .aload 0 :: .getfield 259 :: .iload 5 :: .iload 4 :: .iastore :: .aload 0 :: .getfield 262 :: .iconst 200 :: .if_icmp .ge 71 :: .aload 0 :: .dup :: .getfield 262 :: .iconst 1 :: .iadd :: .putfield 262 :: .goto 85 :: k_25_71
theorem fl_25_0 : m_fl (s_25.drop 0) = k_25_0 := (show m_fl (s_25.drop 0) = [.aload 0, .getfield 261, .aload 0, .getfield 262, .iadd, .iconst 200, .irem, .istore 5, .aload 0, .getfield 256, .iload 5, .iload 1, .iastore, .aload 0, .getfield 257, .iload 5, .iload 2, .iastore, .aload 0, .getfield 258, .iload 5, .iload 3, .iastore, .aload 0, .getfield 259, .iload 5, .iload 4, .iastore, .aload 0, .getfield 262, .iconst 200, .if_icmp .ge 71, .aload 0, .dup, .getfield 262, .iconst 1, .iadd, .putfield 262, .goto 85] ++ m_fl (s_25.drop 1) from rfl).trans (by rw [fl_25_1]; rfl)
theorem tn_25_0 {L : Nat} {xs : Nat → Int32} : m_tg (p_P L xs) 25 0 = k_25_0 := (show m_tgl s_25 0 = m_fl (s_25.drop 0) from rfl).trans fl_25_0
theorem tg_25_71 {L : Nat} {xs : Nat → Int32} : m_tg (p_P L xs) 25 71 = k_25_71 := (show m_tgl s_25 71 = m_fl (s_25.drop 1) from rfl).trans fl_25_1
theorem tg_25_85 {L : Nat} {xs : Nat → Int32} : m_tg (p_P L xs) 25 85 = k_25_85 := (show m_tgl s_25 85 = m_fl (s_25.drop 2) from rfl).trans fl_25_2
theorem tg_25_108 {L : Nat} {xs : Nat → Int32} : m_tg (p_P L xs) 25 108 = k_25_108 := (show m_tgl s_25 108 = m_fl (s_25.drop 3) from rfl).trans fl_25_3
noncomputable def k_26_92 : List Instr := .invokedynamic 0 :: []
theorem fl_26_7 : m_fl (s_26.drop 7) = k_26_92 := rfl
noncomputable def k_26_85 : List Instr := .aload 0 :: .getfield 259 :: .iload 3 :: .iaload :: .ireturn :: k_26_92
theorem fl_26_6 : m_fl (s_26.drop 6) = k_26_85 := (show m_fl (s_26.drop 6) = [.aload 0, .getfield 259, .iload 3, .iaload, .ireturn] ++ m_fl (s_26.drop 7) from rfl).trans (by rw [fl_26_7]; rfl)
noncomputable def k_26_78 : List Instr := .aload 0 :: .getfield 258 :: .iload 3 :: .iaload :: .ireturn :: k_26_85
theorem fl_26_5 : m_fl (s_26.drop 5) = k_26_78 := (show m_fl (s_26.drop 5) = [.aload 0, .getfield 258, .iload 3, .iaload, .ireturn] ++ m_fl (s_26.drop 6) from rfl).trans (by rw [fl_26_6]; rfl)
noncomputable def k_26_71 : List Instr := .aload 0 :: .getfield 257 :: .iload 3 :: .iaload :: .ireturn :: k_26_78
theorem fl_26_4 : m_fl (s_26.drop 4) = k_26_71 := (show m_fl (s_26.drop 4) = [.aload 0, .getfield 257, .iload 3, .iaload, .ireturn] ++ m_fl (s_26.drop 5) from rfl).trans (by rw [fl_26_5]; rfl)
noncomputable def k_26_64 : List Instr := .aload 0 :: .getfield 256 :: .iload 3 :: .iaload :: .ireturn :: k_26_71
theorem fl_26_3 : m_fl (s_26.drop 3) = k_26_64 := (show m_fl (s_26.drop 3) = [.aload 0, .getfield 256, .iload 3, .iaload, .ireturn] ++ m_fl (s_26.drop 4) from rfl).trans (by rw [fl_26_4]; rfl)
noncomputable def k_26_22 : List Instr := .aload 0 :: .getfield 261 :: .iload 1 :: .iadd :: .iconst 200 :: .irem :: .istore 3 :: .iload 2 :: .tableswitch 92 0 3 #[64, 71, 78, 85] :: k_26_64
theorem fl_26_2 : m_fl (s_26.drop 2) = k_26_22 := (show m_fl (s_26.drop 2) = [.aload 0, .getfield 261, .iload 1, .iadd, .iconst 200, .irem, .istore 3, .iload 2, .tableswitch 92 0 3 #[64, 71, 78, 85]] ++ m_fl (s_26.drop 3) from rfl).trans (by rw [fl_26_3]; rfl)
noncomputable def k_26_12 : List Instr := .invokedynamic 0 :: k_26_22
theorem fl_26_1 : m_fl (s_26.drop 1) = k_26_12 := (show m_fl (s_26.drop 1) = [.invokedynamic 0] ++ m_fl (s_26.drop 2) from rfl).trans (by rw [fl_26_2]; rfl)
noncomputable def k_26_0 : List Instr := .iload 1 :: .ifCond .lt 12 :: .iload 1 :: .aload 0 :: .getfield 262 :: .if_icmp .lt 22 :: k_26_12
theorem fl_26_0 : m_fl (s_26.drop 0) = k_26_0 := (show m_fl (s_26.drop 0) = [.iload 1, .ifCond .lt 12, .iload 1, .aload 0, .getfield 262, .if_icmp .lt 22] ++ m_fl (s_26.drop 1) from rfl).trans (by rw [fl_26_1]; rfl)
theorem tn_26_0 {L : Nat} {xs : Nat → Int32} : m_tg (p_P L xs) 26 0 = k_26_0 := (show m_tgl s_26 0 = m_fl (s_26.drop 0) from rfl).trans fl_26_0
theorem tg_26_12 {L : Nat} {xs : Nat → Int32} : m_tg (p_P L xs) 26 12 = k_26_12 := (show m_tgl s_26 12 = m_fl (s_26.drop 1) from rfl).trans fl_26_1
theorem tg_26_22 {L : Nat} {xs : Nat → Int32} : m_tg (p_P L xs) 26 22 = k_26_22 := (show m_tgl s_26 22 = m_fl (s_26.drop 2) from rfl).trans fl_26_2
theorem tg_26_64 {L : Nat} {xs : Nat → Int32} : m_tg (p_P L xs) 26 64 = k_26_64 := (show m_tgl s_26 64 = m_fl (s_26.drop 3) from rfl).trans fl_26_3
theorem tg_26_71 {L : Nat} {xs : Nat → Int32} : m_tg (p_P L xs) 26 71 = k_26_71 := (show m_tgl s_26 71 = m_fl (s_26.drop 4) from rfl).trans fl_26_4
theorem tg_26_78 {L : Nat} {xs : Nat → Int32} : m_tg (p_P L xs) 26 78 = k_26_78 := (show m_tgl s_26 78 = m_fl (s_26.drop 5) from rfl).trans fl_26_5
theorem tg_26_85 {L : Nat} {xs : Nat → Int32} : m_tg (p_P L xs) 26 85 = k_26_85 := (show m_tgl s_26 85 = m_fl (s_26.drop 6) from rfl).trans fl_26_6
theorem tg_26_92 {L : Nat} {xs : Nat → Int32} : m_tg (p_P L xs) 26 92 = k_26_92 := (show m_tgl s_26 92 = m_fl (s_26.drop 7) from rfl).trans fl_26_7
noncomputable def k_27_23 : List Instr := .ireturn :: []
theorem fl_27_2 : m_fl (s_27.drop 2) = k_27_23 := rfl
noncomputable def k_27_22 : List Instr := .iconst (-1) :: k_27_23
theorem fl_27_1 : m_fl (s_27.drop 1) = k_27_22 := (show m_fl (s_27.drop 1) = [.iconst (-1)] ++ m_fl (s_27.drop 2) from rfl).trans (by rw [fl_27_2]; rfl)
noncomputable def k_27_0 : List Instr := .iload 1 :: .ifCond .lt 22 :: .iload 1 :: .aload 0 :: .getfield 260 :: .ldc_w 100 :: .if_icmp .ge 22 :: .aload 0 :: .getfield 260 :: .iload 1 :: .iaload :: .goto 23 :: k_27_22
theorem fl_27_0 : m_fl (s_27.drop 0) = k_27_0 := (show m_fl (s_27.drop 0) = [.iload 1, .ifCond .lt 22, .iload 1, .aload 0, .getfield 260, .ldc_w 100, .if_icmp .ge 22, .aload 0, .getfield 260, .iload 1, .iaload, .goto 23] ++ m_fl (s_27.drop 1) from rfl).trans (by rw [fl_27_1]; rfl)
theorem tn_27_0 {L : Nat} {xs : Nat → Int32} : m_tg (p_P L xs) 27 0 = k_27_0 := (show m_tgl s_27 0 = m_fl (s_27.drop 0) from rfl).trans fl_27_0
theorem tg_27_22 {L : Nat} {xs : Nat → Int32} : m_tg (p_P L xs) 27 22 = k_27_22 := (show m_tgl s_27 22 = m_fl (s_27.drop 1) from rfl).trans fl_27_1
theorem tg_27_23 {L : Nat} {xs : Nat → Int32} : m_tg (p_P L xs) 27 23 = k_27_23 := (show m_tgl s_27 23 = m_fl (s_27.drop 2) from rfl).trans fl_27_2
noncomputable def k_28_0 : List Instr := .aload 0 :: .invokespecial 9000 :: .aload 0 :: .iconst 1 :: .putfield 320 :: .aload 0 :: .iconst 0 :: .putfield 321 :: .aload 0 :: .iconst 8 :: .anewarray 1 :: .putfield 322 :: .aload 0 :: .iconst 2 :: .putfield 323 :: .aload 0 :: .iconst 32 :: .putfield 324 :: .aload 0 :: .iconst 20 :: .putfield 325 :: .aload 0 :: .iconst 5 :: .putfield 326 :: .aload 0 :: .iconst 3 :: .putfield 327 :: .aload 0 :: .iconst 4 :: .putfield 328 :: .aload 0 :: .iconst 1 :: .putfield 329 :: .aload 0 :: .new 0 :: .dup :: .iload 1 :: .invokespecial 0 :: .putfield 330 :: .return_ :: []
theorem fl_28_0 : m_fl (s_28.drop 0) = k_28_0 := rfl
theorem tn_28_0 {L : Nat} {xs : Nat → Int32} : m_tg (p_P L xs) 28 0 = k_28_0 := (show m_tgl s_28 0 = m_fl (s_28.drop 0) from rfl).trans fl_28_0
noncomputable def k_29_46 : List Instr := .aload 2 :: .areturn :: []
theorem fl_29_4 : m_fl (s_29.drop 4) = k_29_46 := rfl
noncomputable def k_29_31 : List Instr := .astore 2 :: .aload 2 :: .ifnonnull 46 :: .invokedynamic 0 :: k_29_46
theorem fl_29_3 : m_fl (s_29.drop 3) = k_29_31 := (show m_fl (s_29.drop 3) = [.astore 2, .aload 2, .ifnonnull 46, .invokedynamic 0] ++ m_fl (s_29.drop 4) from rfl).trans (by rw [fl_29_4]; rfl)
noncomputable def k_29_25 : List Instr := .aload 0 :: .getfield 322 :: .iload 1 :: .checkcast 1 :: k_29_31
theorem fl_29_2 : m_fl (s_29.drop 2) = k_29_25 := (show m_fl (s_29.drop 2) = [.aload 0, .getfield 322, .iload 1, .checkcast 1] ++ m_fl (s_29.drop 3) from rfl).trans (by rw [fl_29_3]; rfl)
noncomputable def k_29_21 : List Instr := .aconst_null :: .goto 31 :: k_29_25
theorem fl_29_1 : m_fl (s_29.drop 1) = k_29_21 := (show m_fl (s_29.drop 1) = [.aconst_null, .goto 31] ++ m_fl (s_29.drop 2) from rfl).trans (by rw [fl_29_2]; rfl)
noncomputable def k_29_0 : List Instr := .iload 1 :: .ifCond .lt 21 :: .iload 1 :: .aload 0 :: .getfield 321 :: .if_icmp .ge 21 :: .iload 1 :: .aload 0 :: .getfield 322 :: .ldc_w 201 :: .if_icmp .lt 25 :: k_29_21
theorem fl_29_0 : m_fl (s_29.drop 0) = k_29_0 := (show m_fl (s_29.drop 0) = [.iload 1, .ifCond .lt 21, .iload 1, .aload 0, .getfield 321, .if_icmp .ge 21, .iload 1, .aload 0, .getfield 322, .ldc_w 201, .if_icmp .lt 25] ++ m_fl (s_29.drop 1) from rfl).trans (by rw [fl_29_1]; rfl)
theorem tn_29_0 {L : Nat} {xs : Nat → Int32} : m_tg (p_P L xs) 29 0 = k_29_0 := (show m_tgl s_29 0 = m_fl (s_29.drop 0) from rfl).trans fl_29_0
theorem tg_29_21 {L : Nat} {xs : Nat → Int32} : m_tg (p_P L xs) 29 21 = k_29_21 := (show m_tgl s_29 21 = m_fl (s_29.drop 1) from rfl).trans fl_29_1
theorem tg_29_25 {L : Nat} {xs : Nat → Int32} : m_tg (p_P L xs) 29 25 = k_29_25 := (show m_tgl s_29 25 = m_fl (s_29.drop 2) from rfl).trans fl_29_2
theorem tg_29_31 {L : Nat} {xs : Nat → Int32} : m_tg (p_P L xs) 29 31 = k_29_31 := (show m_tgl s_29 31 = m_fl (s_29.drop 3) from rfl).trans fl_29_3
theorem tg_29_46 {L : Nat} {xs : Nat → Int32} : m_tg (p_P L xs) 29 46 = k_29_46 := (show m_tgl s_29 46 = m_fl (s_29.drop 4) from rfl).trans fl_29_4
noncomputable def k_30_32 : List Instr := .return_ :: []
theorem fl_30_1 : m_fl (s_30.drop 1) = k_30_32 := rfl
noncomputable def k_30_0 : List Instr := .aload 0 :: .getfield 321 :: .aload 0 :: .getfield 322 :: .ldc_w 201 :: .if_icmp .ge 32 :: .aload 0 :: .getfield 322 :: .aload 0 :: .getfield 321 :: .aload 1 :: .instanceof 1 :: .aload 0 :: .dup :: .getfield 321 :: .iconst 1 :: .iadd :: .putfield 321 :: k_30_32
theorem fl_30_0 : m_fl (s_30.drop 0) = k_30_0 := (show m_fl (s_30.drop 0) = [.aload 0, .getfield 321, .aload 0, .getfield 322, .ldc_w 201, .if_icmp .ge 32, .aload 0, .getfield 322, .aload 0, .getfield 321, .aload 1, .instanceof 1, .aload 0, .dup, .getfield 321, .iconst 1, .iadd, .putfield 321] ++ m_fl (s_30.drop 1) from rfl).trans (by rw [fl_30_1]; rfl)
theorem tn_30_0 {L : Nat} {xs : Nat → Int32} : m_tg (p_P L xs) 30 0 = k_30_0 := (show m_tgl s_30 0 = m_fl (s_30.drop 0) from rfl).trans fl_30_0
theorem tg_30_32 {L : Nat} {xs : Nat → Int32} : m_tg (p_P L xs) 30 32 = k_30_32 := (show m_tgl s_30 32 = m_fl (s_30.drop 1) from rfl).trans fl_30_1
noncomputable def k_31_0 : List Instr := .aload 0 :: .invokespecial 9000 :: .aload 0 :: .iconst 0 :: .putfield 388 :: .aload 0 :: .iconst 0 :: .putfield 389 :: .aload 0 :: .iconst 0 :: .putfield 390 :: .aload 0 :: .new 8 :: .dup :: .aload 1 :: .iload 2 :: .invokespecial 60 :: .putfield 384 :: .aload 0 :: .iload 3 :: .putfield 385 :: .aload 0 :: .new 5 :: .dup :: .iload 2 :: .invokespecial 28 :: .putfield 386 :: .aload 0 :: .aload 0 :: .getfield 386 :: .getfield 330 :: .putfield 387 :: .return_ :: []
theorem fl_31_0 : m_fl (s_31.drop 0) = k_31_0 := rfl
theorem tn_31_0 {L : Nat} {xs : Nat → Int32} : m_tg (p_P L xs) 31 0 = k_31_0 := (show m_tgl s_31 0 = m_fl (s_31.drop 0) from rfl).trans fl_31_0
noncomputable def k_32_68 : List Instr := .return_ :: []
theorem fl_32_2 : m_fl (s_32.drop 2) = k_32_68 := rfl
noncomputable def k_32_35 : List Instr := .iload 1 :: .iconst 1000 :: .if_icmp .ge 68 :: .aload 0 :: .getfield 384 :: .invokevirtual 68 :: .ifCond .ne 68 :: .aload 0 :: .invokevirtual 37 :: .aload 0 :: .iconst 59 :: .invokevirtual 35 :: .iinc 1 1 :: .goto 35 :: k_32_68
theorem fl_32_1 : m_fl (s_32.drop 1) = k_32_35 := (show m_fl (s_32.drop 1) = [.iload 1, .iconst 1000, .if_icmp .ge 68, .aload 0, .getfield 384, .invokevirtual 68, .ifCond .ne 68, .aload 0, .invokevirtual 37, .aload 0, .iconst 59, .invokevirtual 35, .iinc 1 1, .goto 35] ++ m_fl (s_32.drop 2) from rfl).trans (by rw [fl_32_2]; rfl)
noncomputable def k_32_0 : List Instr := .aload 0 :: .getfield 384 :: .invokevirtual 61 :: .aload 0 :: .getstatic 1000000001 :: .invokevirtual 34 :: .aload 0 :: .getfield 386 :: .aload 0 :: .iconst 1 :: .iconst 4 :: .invokevirtual 36 :: .putfield 320 :: .aload 0 :: .iconst 59 :: .invokevirtual 35 :: .iconst 0 :: .istore 1 :: k_32_35
theorem fl_32_0 : m_fl (s_32.drop 0) = k_32_0 := (show m_fl (s_32.drop 0) = [.aload 0, .getfield 384, .invokevirtual 61, .aload 0, .getstatic 1000000001, .invokevirtual 34, .aload 0, .getfield 386, .aload 0, .iconst 1, .iconst 4, .invokevirtual 36, .putfield 320, .aload 0, .iconst 59, .invokevirtual 35, .iconst 0, .istore 1] ++ m_fl (s_32.drop 1) from rfl).trans (by rw [fl_32_1]; rfl)
theorem tn_32_0 {L : Nat} {xs : Nat → Int32} : m_tg (p_P L xs) 32 0 = k_32_0 := (show m_tgl s_32 0 = m_fl (s_32.drop 0) from rfl).trans fl_32_0
theorem tg_32_35 {L : Nat} {xs : Nat → Int32} : m_tg (p_P L xs) 32 35 = k_32_35 := (show m_tgl s_32 35 = m_fl (s_32.drop 1) from rfl).trans fl_32_1
theorem tg_32_68 {L : Nat} {xs : Nat → Int32} : m_tg (p_P L xs) 32 68 = k_32_68 := (show m_tgl s_32 68 = m_fl (s_32.drop 2) from rfl).trans fl_32_2
noncomputable def k_33_63 : List Instr := .return_ :: []
theorem fl_33_3 : m_fl (s_33.drop 3) = k_33_63 := rfl
noncomputable def k_33_38 : List Instr := .invokevirtual 34 :: .aload 0 :: .invokevirtual 42 :: .aload 0 :: .getfield 384 :: .invokevirtual 68 :: .ifCond .ne 63 :: .aload 0 :: .getfield 384 :: .iconst 1 :: .invokevirtual 75 :: k_33_63
theorem fl_33_2 : m_fl (s_33.drop 2) = k_33_38 := (show m_fl (s_33.drop 2) = [.invokevirtual 34, .aload 0, .invokevirtual 42, .aload 0, .getfield 384, .invokevirtual 68, .ifCond .ne 63, .aload 0, .getfield 384, .iconst 1, .invokevirtual 75] ++ m_fl (s_33.drop 3) from rfl).trans (by rw [fl_33_3]; rfl)
noncomputable def k_33_35 : List Instr := .getstatic 1000000013 :: k_33_38
theorem fl_33_1 : m_fl (s_33.drop 1) = k_33_35 := (show m_fl (s_33.drop 1) = [.getstatic 1000000013] ++ m_fl (s_33.drop 2) from rfl).trans (by rw [fl_33_2]; rfl)
noncomputable def k_33_0 : List Instr := .aload 0 :: .getfield 384 :: .invokevirtual 61 :: .aload 0 :: .aload 0 :: .getfield 384 :: .getstatic 1000000014 :: .invokevirtual 73 :: .putfield 388 :: .aload 0 :: .aload 0 :: .getfield 388 :: .ifCond .eq 35 :: .getstatic 1000000014 :: .goto 38 :: k_33_35
theorem fl_33_0 : m_fl (s_33.drop 0) = k_33_0 := (show m_fl (s_33.drop 0) = [.aload 0, .getfield 384, .invokevirtual 61, .aload 0, .aload 0, .getfield 384, .getstatic 1000000014, .invokevirtual 73, .putfield 388, .aload 0, .aload 0, .getfield 388, .ifCond .eq 35, .getstatic 1000000014, .goto 38] ++ m_fl (s_33.drop 1) from rfl).trans (by rw [fl_33_1]; rfl)
theorem tn_33_0 {L : Nat} {xs : Nat → Int32} : m_tg (p_P L xs) 33 0 = k_33_0 := (show m_tgl s_33 0 = m_fl (s_33.drop 0) from rfl).trans fl_33_0
theorem tg_33_35 {L : Nat} {xs : Nat → Int32} : m_tg (p_P L xs) 33 35 = k_33_35 := (show m_tgl s_33 35 = m_fl (s_33.drop 1) from rfl).trans fl_33_1
theorem tg_33_38 {L : Nat} {xs : Nat → Int32} : m_tg (p_P L xs) 33 38 = k_33_38 := (show m_tgl s_33 38 = m_fl (s_33.drop 2) from rfl).trans fl_33_2
theorem tg_33_63 {L : Nat} {xs : Nat → Int32} : m_tg (p_P L xs) 33 63 = k_33_63 := (show m_tgl s_33 63 = m_fl (s_33.drop 3) from rfl).trans fl_33_3
noncomputable def k_34_29 : List Instr := .return_ :: []
theorem fl_34_2 : m_fl (s_34.drop 2) = k_34_29 := rfl
noncomputable def k_34_21 : List Instr := .aload 0 :: .getfield 384 :: .iconst 1 :: .invokevirtual 75 :: k_34_29
theorem fl_34_1 : m_fl (s_34.drop 1) = k_34_21 := (show m_fl (s_34.drop 1) = [.aload 0, .getfield 384, .iconst 1, .invokevirtual 75] ++ m_fl (s_34.drop 2) from rfl).trans (by rw [fl_34_2]; rfl)
noncomputable def k_34_0 : List Instr := .aload 0 :: .getfield 384 :: .aload 1 :: .invokevirtual 73 :: .ifCond .eq 21 :: .aload 0 :: .getfield 384 :: .invokevirtual 67 :: .goto 29 :: k_34_21
theorem fl_34_0 : m_fl (s_34.drop 0) = k_34_0 := (show m_fl (s_34.drop 0) = [.aload 0, .getfield 384, .aload 1, .invokevirtual 73, .ifCond .eq 21, .aload 0, .getfield 384, .invokevirtual 67, .goto 29] ++ m_fl (s_34.drop 1) from rfl).trans (by rw [fl_34_1]; rfl)
theorem tn_34_0 {L : Nat} {xs : Nat → Int32} : m_tg (p_P L xs) 34 0 = k_34_0 := (show m_tgl s_34 0 = m_fl (s_34.drop 0) from rfl).trans fl_34_0
theorem tg_34_21 {L : Nat} {xs : Nat → Int32} : m_tg (p_P L xs) 34 21 = k_34_21 := (show m_tgl s_34 21 = m_fl (s_34.drop 1) from rfl).trans fl_34_1
theorem tg_34_29 {L : Nat} {xs : Nat → Int32} : m_tg (p_P L xs) 34 29 = k_34_29 := (show m_tgl s_34 29 = m_fl (s_34.drop 2) from rfl).trans fl_34_2
noncomputable def k_35_29 : List Instr := .return_ :: []
theorem fl_35_2 : m_fl (s_35.drop 2) = k_35_29 := rfl
noncomputable def k_35_21 : List Instr := .aload 0 :: .getfield 384 :: .iconst 1 :: .invokevirtual 75 :: k_35_29
theorem fl_35_1 : m_fl (s_35.drop 1) = k_35_21 := (show m_fl (s_35.drop 1) = [.aload 0, .getfield 384, .iconst 1, .invokevirtual 75] ++ m_fl (s_35.drop 2) from rfl).trans (by rw [fl_35_2]; rfl)
noncomputable def k_35_0 : List Instr := .aload 0 :: .getfield 384 :: .iload 1 :: .invokevirtual 72 :: .ifCond .eq 21 :: .aload 0 :: .getfield 384 :: .invokevirtual 67 :: .goto 29 :: k_35_21
theorem fl_35_0 : m_fl (s_35.drop 0) = k_35_0 := (show m_fl (s_35.drop 0) = [.aload 0, .getfield 384, .iload 1, .invokevirtual 72, .ifCond .eq 21, .aload 0, .getfield 384, .invokevirtual 67, .goto 29] ++ m_fl (s_35.drop 1) from rfl).trans (by rw [fl_35_1]; rfl)
theorem tn_35_0 {L : Nat} {xs : Nat → Int32} : m_tg (p_P L xs) 35 0 = k_35_0 := (show m_tgl s_35 0 = m_fl (s_35.drop 0) from rfl).trans fl_35_0
theorem tg_35_21 {L : Nat} {xs : Nat → Int32} : m_tg (p_P L xs) 35 21 = k_35_21 := (show m_tgl s_35 21 = m_fl (s_35.drop 1) from rfl).trans fl_35_1
theorem tg_35_29 {L : Nat} {xs : Nat → Int32} : m_tg (p_P L xs) 35 29 = k_35_29 := (show m_tgl s_35 29 = m_fl (s_35.drop 2) from rfl).trans fl_35_2
noncomputable def k_36_48 : List Instr := .aload 0 :: .getfield 384 :: .invokevirtual 67 :: .iload 3 :: .ireturn :: []
theorem fl_36_3 : m_fl (s_36.drop 3) = k_36_48 := rfl
noncomputable def k_36_38 : List Instr := .aload 0 :: .getfield 384 :: .iconst 2 :: .invokevirtual 75 :: .iload 1 :: .ireturn :: k_36_48
theorem fl_36_2 : m_fl (s_36.drop 2) = k_36_38 := (show m_fl (s_36.drop 2) = [.aload 0, .getfield 384, .iconst 2, .invokevirtual 75, .iload 1, .ireturn] ++ m_fl (s_36.drop 3) from rfl).trans (by rw [fl_36_3]; rfl)
noncomputable def k_36_28 : List Instr := .iload 3 :: .iload 1 :: .if_icmp .lt 38 :: .iload 3 :: .iload 2 :: .if_icmp .le 48 :: k_36_38
theorem fl_36_1 : m_fl (s_36.drop 1) = k_36_28 := (show m_fl (s_36.drop 1) = [.iload 3, .iload 1, .if_icmp .lt 38, .iload 3, .iload 2, .if_icmp .le 48] ++ m_fl (s_36.drop 2) from rfl).trans (by rw [fl_36_2]; rfl)
noncomputable def k_36_0 : List Instr := .aload 0 :: .getfield 384 :: .invokevirtual 70 :: .istore 3 :: .aload 0 :: .getfield 384 :: .invokevirtual 71 :: .ifCond .ne 28 :: .aload 0 :: .getfield 384 :: .iconst 1 :: .invokevirtual 75 :: .iload 1 :: .ireturn :: k_36_28
theorem fl_36_0 : m_fl (s_36.drop 0) = k_36_0 := (show m_fl (s_36.drop 0) = [.aload 0, .getfield 384, .invokevirtual 70, .istore 3, .aload 0, .getfield 384, .invokevirtual 71, .ifCond .ne 28, .aload 0, .getfield 384, .iconst 1, .invokevirtual 75, .iload 1, .ireturn] ++ m_fl (s_36.drop 1) from rfl).trans (by rw [fl_36_1]; rfl)
theorem tn_36_0 {L : Nat} {xs : Nat → Int32} : m_tg (p_P L xs) 36 0 = k_36_0 := (show m_tgl s_36 0 = m_fl (s_36.drop 0) from rfl).trans fl_36_0
theorem tg_36_28 {L : Nat} {xs : Nat → Int32} : m_tg (p_P L xs) 36 28 = k_36_28 := (show m_tgl s_36 28 = m_fl (s_36.drop 1) from rfl).trans fl_36_1
theorem tg_36_38 {L : Nat} {xs : Nat → Int32} : m_tg (p_P L xs) 36 38 = k_36_38 := (show m_tgl s_36 38 = m_fl (s_36.drop 2) from rfl).trans fl_36_2
theorem tg_36_48 {L : Nat} {xs : Nat → Int32} : m_tg (p_P L xs) 36 48 = k_36_48 := (show m_tgl s_36 48 = m_fl (s_36.drop 3) from rfl).trans fl_36_3
noncomputable def k_37_203 : List Instr := .return_ :: []
theorem fl_37_9 : m_fl (s_37.drop 9) = k_37_203 := rfl
noncomputable def k_37_189 : List Instr := .aload 0 :: .getfield 386 :: .aload 0 :: .iconst 1 :: .iconst 50 :: .invokevirtual 36 :: .putfield 329 :: k_37_203
theorem fl_37_8 : m_fl (s_37.drop 8) = k_37_189 := (show m_fl (s_37.drop 8) = [.aload 0, .getfield 386, .aload 0, .iconst 1, .iconst 50, .invokevirtual 36, .putfield 329] ++ m_fl (s_37.drop 9) from rfl).trans (by rw [fl_37_9]; rfl)
noncomputable def k_37_165 : List Instr := .aload 1 :: .getstatic 1000000019 :: .if_acmp .ne 189 :: .aload 0 :: .getfield 386 :: .aload 0 :: .iconst 1 :: .iconst 20 :: .invokevirtual 36 :: .putfield 328 :: .goto 203 :: k_37_189
theorem fl_37_7 : m_fl (s_37.drop 7) = k_37_165 := (show m_fl (s_37.drop 7) = [.aload 1, .getstatic 1000000019, .if_acmp .ne 189, .aload 0, .getfield 386, .aload 0, .iconst 1, .iconst 20, .invokevirtual 36, .putfield 328, .goto 203] ++ m_fl (s_37.drop 8) from rfl).trans (by rw [fl_37_8]; rfl)
noncomputable def k_37_141 : List Instr := .aload 1 :: .getstatic 1000000018 :: .if_acmp .ne 165 :: .aload 0 :: .getfield 386 :: .aload 0 :: .iconst 1 :: .iconst 20 :: .invokevirtual 36 :: .putfield 327 :: .goto 203 :: k_37_165
theorem fl_37_6 : m_fl (s_37.drop 6) = k_37_141 := (show m_fl (s_37.drop 6) = [.aload 1, .getstatic 1000000018, .if_acmp .ne 165, .aload 0, .getfield 386, .aload 0, .iconst 1, .iconst 20, .invokevirtual 36, .putfield 327, .goto 203] ++ m_fl (s_37.drop 7) from rfl).trans (by rw [fl_37_7]; rfl)
noncomputable def k_37_117 : List Instr := .aload 1 :: .getstatic 1000000017 :: .if_acmp .ne 141 :: .aload 0 :: .getfield 386 :: .aload 0 :: .iconst 0 :: .iconst 20 :: .invokevirtual 36 :: .putfield 326 :: .goto 203 :: k_37_141
theorem fl_37_5 : m_fl (s_37.drop 5) = k_37_117 := (show m_fl (s_37.drop 5) = [.aload 1, .getstatic 1000000017, .if_acmp .ne 141, .aload 0, .getfield 386, .aload 0, .iconst 0, .iconst 20, .invokevirtual 36, .putfield 326, .goto 203] ++ m_fl (s_37.drop 6) from rfl).trans (by rw [fl_37_6]; rfl)
noncomputable def k_37_92 : List Instr := .aload 1 :: .getstatic 1000000016 :: .if_acmp .ne 117 :: .aload 0 :: .getfield 386 :: .aload 0 :: .iconst 1 :: .iconst 1000 :: .invokevirtual 36 :: .putfield 325 :: .goto 203 :: k_37_117
theorem fl_37_4 : m_fl (s_37.drop 4) = k_37_92 := (show m_fl (s_37.drop 4) = [.aload 1, .getstatic 1000000016, .if_acmp .ne 117, .aload 0, .getfield 386, .aload 0, .iconst 1, .iconst 1000, .invokevirtual 36, .putfield 325, .goto 203] ++ m_fl (s_37.drop 5) from rfl).trans (by rw [fl_37_5]; rfl)
noncomputable def k_37_40 : List Instr := .aload 0 :: .getfield 384 :: .invokevirtual 67 :: .aload 1 :: .getstatic 1000000015 :: .if_acmp .ne 92 :: .aload 0 :: .getfield 386 :: .aload 0 :: .iconst 1 :: .iconst 100 :: .invokevirtual 36 :: .putfield 323 :: .aload 0 :: .getfield 386 :: .aload 0 :: .aload 0 :: .getfield 386 :: .getfield 323 :: .iconst 1000 :: .invokevirtual 36 :: .putfield 324 :: .goto 203 :: k_37_92
theorem fl_37_3 : m_fl (s_37.drop 3) = k_37_40 := (show m_fl (s_37.drop 3) = [.aload 0, .getfield 384, .invokevirtual 67, .aload 1, .getstatic 1000000015, .if_acmp .ne 92, .aload 0, .getfield 386, .aload 0, .iconst 1, .iconst 100, .invokevirtual 36, .putfield 323, .aload 0, .getfield 386, .aload 0, .aload 0, .getfield 386, .getfield 323, .iconst 1000, .invokevirtual 36, .putfield 324, .goto 203] ++ m_fl (s_37.drop 4) from rfl).trans (by rw [fl_37_4]; rfl)
noncomputable def k_37_31 : List Instr := .aload 0 :: .getfield 384 :: .iconst 1 :: .invokevirtual 75 :: .return_ :: k_37_40
theorem fl_37_2 : m_fl (s_37.drop 2) = k_37_31 := (show m_fl (s_37.drop 2) = [.aload 0, .getfield 384, .iconst 1, .invokevirtual 75, .return_] ++ m_fl (s_37.drop 3) from rfl).trans (by rw [fl_37_3]; rfl)
noncomputable def k_37_20 : List Instr := .aload 1 :: .ifnull 31 :: .aload 1 :: .ldc 0 :: .ifCond .ne 40 :: k_37_31
theorem fl_37_1 : m_fl (s_37.drop 1) = k_37_20 := (show m_fl (s_37.drop 1) = [.aload 1, .ifnull 31, .aload 1, .ldc 0, .ifCond .ne 40] ++ m_fl (s_37.drop 2) from rfl).trans (by rw [fl_37_2]; rfl)
noncomputable def k_37_0 : List Instr := .aload 0 :: .getfield 384 :: .invokevirtual 69 :: .astore 1 :: .aload 1 :: .getstatic 1000000002 :: .if_acmp .ne 20 :: .aload 0 :: .invokevirtual 38 :: .return_ :: k_37_20
theorem fl_37_0 : m_fl (s_37.drop 0) = k_37_0 := (show m_fl (s_37.drop 0) = [.aload 0, .getfield 384, .invokevirtual 69, .astore 1, .aload 1, .getstatic 1000000002, .if_acmp .ne 20, .aload 0, .invokevirtual 38, .return_] ++ m_fl (s_37.drop 1) from rfl).trans (by rw [fl_37_1]; rfl)
theorem tn_37_0 {L : Nat} {xs : Nat → Int32} : m_tg (p_P L xs) 37 0 = k_37_0 := (show m_tgl s_37 0 = m_fl (s_37.drop 0) from rfl).trans fl_37_0
theorem tg_37_20 {L : Nat} {xs : Nat → Int32} : m_tg (p_P L xs) 37 20 = k_37_20 := (show m_tgl s_37 20 = m_fl (s_37.drop 1) from rfl).trans fl_37_1
theorem tg_37_31 {L : Nat} {xs : Nat → Int32} : m_tg (p_P L xs) 37 31 = k_37_31 := (show m_tgl s_37 31 = m_fl (s_37.drop 2) from rfl).trans fl_37_2
theorem tg_37_40 {L : Nat} {xs : Nat → Int32} : m_tg (p_P L xs) 37 40 = k_37_40 := (show m_tgl s_37 40 = m_fl (s_37.drop 3) from rfl).trans fl_37_3
theorem tg_37_92 {L : Nat} {xs : Nat → Int32} : m_tg (p_P L xs) 37 92 = k_37_92 := (show m_tgl s_37 92 = m_fl (s_37.drop 4) from rfl).trans fl_37_4
theorem tg_37_117 {L : Nat} {xs : Nat → Int32} : m_tg (p_P L xs) 37 117 = k_37_117 := (show m_tgl s_37 117 = m_fl (s_37.drop 5) from rfl).trans fl_37_5
theorem tg_37_141 {L : Nat} {xs : Nat → Int32} : m_tg (p_P L xs) 37 141 = k_37_141 := (show m_tgl s_37 141 = m_fl (s_37.drop 6) from rfl).trans fl_37_6
theorem tg_37_165 {L : Nat} {xs : Nat → Int32} : m_tg (p_P L xs) 37 165 = k_37_165 := (show m_tgl s_37 165 = m_fl (s_37.drop 7) from rfl).trans fl_37_7
theorem tg_37_189 {L : Nat} {xs : Nat → Int32} : m_tg (p_P L xs) 37 189 = k_37_189 := (show m_tgl s_37 189 = m_fl (s_37.drop 8) from rfl).trans fl_37_8
theorem tg_37_203 {L : Nat} {xs : Nat → Int32} : m_tg (p_P L xs) 37 203 = k_37_203 := (show m_tgl s_37 203 = m_fl (s_37.drop 9) from rfl).trans fl_37_9
noncomputable def k_38_132 : List Instr := .aload 1 :: .aload 0 :: .getfield 387 :: .getfield 2 :: .putfield 69 :: .aload 0 :: .iconst 2 :: .putfield 390 :: .aload 0 :: .getstatic 1000000004 :: .iconst 0 :: .iconst 8 :: .invokevirtual 41 :: .aload 1 :: .aload 0 :: .getfield 387 :: .getfield 2 :: .putfield 70 :: .aload 0 :: .iconst 3 :: .putfield 390 :: .aload 0 :: .getstatic 1000000005 :: .iconst 8 :: .iconst 4 :: .invokevirtual 41 :: .aload 1 :: .aload 0 :: .getfield 387 :: .getfield 2 :: .putfield 71 :: .aload 0 :: .getfield 386 :: .aload 1 :: .invokevirtual 30 :: .return_ :: []
theorem fl_38_3 : m_fl (s_38.drop 3) = k_38_132 := rfl
noncomputable def k_38_74 : List Instr := .aload 0 :: .getstatic 1000000003 :: .invokevirtual 34 :: .aload 1 :: .aload 0 :: .iconst 1 :: .iconst 50 :: .invokevirtual 36 :: .putfield 66 :: .aload 1 :: .aload 0 :: .getfield 387 :: .getfield 2 :: .putfield 68 :: .aload 0 :: .getfield 384 :: .getstatic 1000000033 :: .invokevirtual 73 :: .ifCond .eq 132 :: .aload 0 :: .getfield 384 :: .invokevirtual 67 :: .aload 0 :: .iconst 1 :: .putfield 390 :: .aload 0 :: .invokevirtual 48 :: k_38_132
theorem fl_38_2 : m_fl (s_38.drop 2) = k_38_74 := (show m_fl (s_38.drop 2) = [.aload 0, .getstatic 1000000003, .invokevirtual 34, .aload 1, .aload 0, .iconst 1, .iconst 50, .invokevirtual 36, .putfield 66, .aload 1, .aload 0, .getfield 387, .getfield 2, .putfield 68, .aload 0, .getfield 384, .getstatic 1000000033, .invokevirtual 73, .ifCond .eq 132, .aload 0, .getfield 384, .invokevirtual 67, .aload 0, .iconst 1, .putfield 390, .aload 0, .invokevirtual 48] ++ m_fl (s_38.drop 3) from rfl).trans (by rw [fl_38_3]; rfl)
noncomputable def k_38_21 : List Instr := .aload 0 :: .getfield 384 :: .invokevirtual 67 :: .new 1 :: .dup :: .invokespecial 5 :: .astore 1 :: .aload 0 :: .aload 1 :: .invokevirtual 39 :: .aload 0 :: .aload 1 :: .invokevirtual 40 :: .aload 1 :: .aload 0 :: .getfield 387 :: .getfield 2 :: .putfield 67 :: .aload 1 :: .getfield 65 :: .iconst 3 :: .if_icmp .ne 74 :: .aload 0 :: .iconst 0 :: .putfield 390 :: .aload 0 :: .invokevirtual 42 :: k_38_74
theorem fl_38_1 : m_fl (s_38.drop 1) = k_38_21 := (show m_fl (s_38.drop 1) = [.aload 0, .getfield 384, .invokevirtual 67, .new 1, .dup, .invokespecial 5, .astore 1, .aload 0, .aload 1, .invokevirtual 39, .aload 0, .aload 1, .invokevirtual 40, .aload 1, .aload 0, .getfield 387, .getfield 2, .putfield 67, .aload 1, .getfield 65, .iconst 3, .if_icmp .ne 74, .aload 0, .iconst 0, .putfield 390, .aload 0, .invokevirtual 42] ++ m_fl (s_38.drop 2) from rfl).trans (by rw [fl_38_2]; rfl)
noncomputable def k_38_0 : List Instr := .aload 0 :: .getfield 386 :: .getfield 321 :: .iconst 8 :: .if_icmp .lt 21 :: .aload 0 :: .getfield 384 :: .iconst 3 :: .invokevirtual 75 :: .return_ :: k_38_21
theorem fl_38_0 : m_fl (s_38.drop 0) = k_38_0 := (show m_fl (s_38.drop 0) = [.aload 0, .getfield 386, .getfield 321, .iconst 8, .if_icmp .lt 21, .aload 0, .getfield 384, .iconst 3, .invokevirtual 75, .return_] ++ m_fl (s_38.drop 1) from rfl).trans (by rw [fl_38_1]; rfl)
theorem tn_38_0 {L : Nat} {xs : Nat → Int32} : m_tg (p_P L xs) 38 0 = k_38_0 := (show m_tgl s_38 0 = m_fl (s_38.drop 0) from rfl).trans fl_38_0
theorem tg_38_21 {L : Nat} {xs : Nat → Int32} : m_tg (p_P L xs) 38 21 = k_38_21 := (show m_tgl s_38 21 = m_fl (s_38.drop 1) from rfl).trans fl_38_1
theorem tg_38_74 {L : Nat} {xs : Nat → Int32} : m_tg (p_P L xs) 38 74 = k_38_74 := (show m_tgl s_38 74 = m_fl (s_38.drop 2) from rfl).trans fl_38_2
theorem tg_38_132 {L : Nat} {xs : Nat → Int32} : m_tg (p_P L xs) 38 132 = k_38_132 := (show m_tgl s_38 132 = m_fl (s_38.drop 3) from rfl).trans fl_38_3
noncomputable def k_39_75 : List Instr := .aload 1 :: .aload 0 :: .getfield 384 :: .getfield 520 :: .putfield 64 :: .aload 0 :: .getfield 384 :: .invokevirtual 67 :: .return_ :: []
theorem fl_39_4 : m_fl (s_39.drop 4) = k_39_75 := rfl
noncomputable def k_39_69 : List Instr := .iinc 2 1 :: .goto 21 :: k_39_75
theorem fl_39_3 : m_fl (s_39.drop 3) = k_39_69 := (show m_fl (s_39.drop 3) = [.iinc 2 1, .goto 21] ++ m_fl (s_39.drop 4) from rfl).trans (by rw [fl_39_4]; rfl)
noncomputable def k_39_21 : List Instr := .iload 2 :: .aload 0 :: .getfield 386 :: .getfield 321 :: .if_icmp .ge 75 :: .aload 0 :: .getfield 384 :: .aload 0 :: .getfield 386 :: .iload 2 :: .invokevirtual 29 :: .getfield 64 :: .aload 0 :: .getfield 384 :: .getfield 520 :: .invokevirtual 76 :: .ifCond .eq 69 :: .aload 0 :: .getfield 384 :: .iconst 4 :: .invokevirtual 75 :: .return_ :: k_39_69
theorem fl_39_2 : m_fl (s_39.drop 2) = k_39_21 := (show m_fl (s_39.drop 2) = [.iload 2, .aload 0, .getfield 386, .getfield 321, .if_icmp .ge 75, .aload 0, .getfield 384, .aload 0, .getfield 386, .iload 2, .invokevirtual 29, .getfield 64, .aload 0, .getfield 384, .getfield 520, .invokevirtual 76, .ifCond .eq 69, .aload 0, .getfield 384, .iconst 4, .invokevirtual 75, .return_] ++ m_fl (s_39.drop 3) from rfl).trans (by rw [fl_39_3]; rfl)
noncomputable def k_39_19 : List Instr := .iconst 0 :: .istore 2 :: k_39_21
theorem fl_39_1 : m_fl (s_39.drop 1) = k_39_19 := (show m_fl (s_39.drop 1) = [.iconst 0, .istore 2] ++ m_fl (s_39.drop 2) from rfl).trans (by rw [fl_39_2]; rfl)
noncomputable def k_39_0 : List Instr := .aload 0 :: .getfield 384 :: .invokevirtual 74 :: .ifCond .ne 19 :: .aload 0 :: .getfield 384 :: .iconst 1 :: .invokevirtual 75 :: .return_ :: k_39_19
theorem fl_39_0 : m_fl (s_39.drop 0) = k_39_0 := (show m_fl (s_39.drop 0) = [.aload 0, .getfield 384, .invokevirtual 74, .ifCond .ne 19, .aload 0, .getfield 384, .iconst 1, .invokevirtual 75, .return_] ++ m_fl (s_39.drop 1) from rfl).trans (by rw [fl_39_1]; rfl)
theorem tn_39_0 {L : Nat} {xs : Nat → Int32} : m_tg (p_P L xs) 39 0 = k_39_0 := (show m_tgl s_39 0 = m_fl (s_39.drop 0) from rfl).trans fl_39_0
theorem tg_39_19 {L : Nat} {xs : Nat → Int32} : m_tg (p_P L xs) 39 19 = k_39_19 := (show m_tgl s_39 19 = m_fl (s_39.drop 1) from rfl).trans fl_39_1
theorem tg_39_21 {L : Nat} {xs : Nat → Int32} : m_tg (p_P L xs) 39 21 = k_39_21 := (show m_tgl s_39 21 = m_fl (s_39.drop 2) from rfl).trans fl_39_2
theorem tg_39_69 {L : Nat} {xs : Nat → Int32} : m_tg (p_P L xs) 39 69 = k_39_69 := (show m_tgl s_39 69 = m_fl (s_39.drop 3) from rfl).trans fl_39_3
theorem tg_39_75 {L : Nat} {xs : Nat → Int32} : m_tg (p_P L xs) 39 75 = k_39_75 := (show m_tgl s_39 75 = m_fl (s_39.drop 4) from rfl).trans fl_39_4
noncomputable def k_40_29 : List Instr := .aload 1 :: .aload 2 :: .ldc 1 :: .putfield 65 :: .aload 0 :: .getfield 384 :: .invokevirtual 67 :: .return_ :: []
theorem fl_40_2 : m_fl (s_40.drop 2) = k_40_29 := rfl
noncomputable def k_40_20 : List Instr := .aload 0 :: .getfield 384 :: .iconst 1 :: .invokevirtual 75 :: .return_ :: k_40_29
theorem fl_40_1 : m_fl (s_40.drop 1) = k_40_20 := (show m_fl (s_40.drop 1) = [.aload 0, .getfield 384, .iconst 1, .invokevirtual 75, .return_] ++ m_fl (s_40.drop 2) from rfl).trans (by rw [fl_40_2]; rfl)
noncomputable def k_40_0 : List Instr := .aload 0 :: .getfield 384 :: .invokevirtual 69 :: .astore 2 :: .aload 2 :: .ifnull 20 :: .aload 2 :: .ldc 1 :: .iconst (-1) :: .if_icmp .ne 29 :: k_40_20
theorem fl_40_0 : m_fl (s_40.drop 0) = k_40_0 := (show m_fl (s_40.drop 0) = [.aload 0, .getfield 384, .invokevirtual 69, .astore 2, .aload 2, .ifnull 20, .aload 2, .ldc 1, .iconst (-1), .if_icmp .ne 29] ++ m_fl (s_40.drop 1) from rfl).trans (by rw [fl_40_1]; rfl)
theorem tn_40_0 {L : Nat} {xs : Nat → Int32} : m_tg (p_P L xs) 40 0 = k_40_0 := (show m_tgl s_40 0 = m_fl (s_40.drop 0) from rfl).trans fl_40_0
theorem tg_40_20 {L : Nat} {xs : Nat → Int32} : m_tg (p_P L xs) 40 20 = k_40_20 := (show m_tgl s_40 20 = m_fl (s_40.drop 1) from rfl).trans fl_40_1
theorem tg_40_29 {L : Nat} {xs : Nat → Int32} : m_tg (p_P L xs) 40 29 = k_40_29 := (show m_tgl s_40 29 = m_fl (s_40.drop 2) from rfl).trans fl_40_2
noncomputable def k_41_67 : List Instr := .return_ :: []
theorem fl_41_2 : m_fl (s_41.drop 2) = k_41_67 := rfl
noncomputable def k_41_3 : List Instr := .iload 4 :: .iconst 1000 :: .if_icmp .ge 67 :: .aload 0 :: .getfield 384 :: .aload 1 :: .invokevirtual 73 :: .ifCond .eq 67 :: .aload 0 :: .getfield 384 :: .invokevirtual 67 :: .aload 0 :: .iconst 0 :: .iload 3 :: .iconst 1 :: .isub :: .invokevirtual 36 :: .istore 5 :: .aload 0 :: .iconst 61 :: .invokevirtual 35 :: .aload 0 :: .invokevirtual 48 :: .aload 0 :: .getfield 387 :: .iconst 2 :: .iload 2 :: .iload 5 :: .iadd :: .invokevirtual 1 :: .iinc 4 1 :: .goto 3 :: k_41_67
theorem fl_41_1 : m_fl (s_41.drop 1) = k_41_3 := (show m_fl (s_41.drop 1) = [.iload 4, .iconst 1000, .if_icmp .ge 67, .aload 0, .getfield 384, .aload 1, .invokevirtual 73, .ifCond .eq 67, .aload 0, .getfield 384, .invokevirtual 67, .aload 0, .iconst 0, .iload 3, .iconst 1, .isub, .invokevirtual 36, .istore 5, .aload 0, .iconst 61, .invokevirtual 35, .aload 0, .invokevirtual 48, .aload 0, .getfield 387, .iconst 2, .iload 2, .iload 5, .iadd, .invokevirtual 1, .iinc 4 1, .goto 3] ++ m_fl (s_41.drop 2) from rfl).trans (by rw [fl_41_2]; rfl)
noncomputable def k_41_0 : List Instr := .iconst 0 :: .istore 4 :: k_41_3
theorem fl_41_0 : m_fl (s_41.drop 0) = k_41_0 := (show m_fl (s_41.drop 0) = [.iconst 0, .istore 4] ++ m_fl (s_41.drop 1) from rfl).trans (by rw [fl_41_1]; rfl)
theorem tn_41_0 {L : Nat} {xs : Nat → Int32} : m_tg (p_P L xs) 41 0 = k_41_0 := (show m_tgl s_41 0 = m_fl (s_41.drop 0) from rfl).trans fl_41_0
theorem tg_41_3 {L : Nat} {xs : Nat → Int32} : m_tg (p_P L xs) 41 3 = k_41_3 := (show m_tgl s_41 3 = m_fl (s_41.drop 1) from rfl).trans fl_41_1
theorem tg_41_67 {L : Nat} {xs : Nat → Int32} : m_tg (p_P L xs) 41 67 = k_41_67 := (show m_tgl s_41 67 = m_fl (s_41.drop 2) from rfl).trans fl_41_2
noncomputable def k_42_53 : List Instr := .return_ :: []
theorem fl_42_2 : m_fl (s_42.drop 2) = k_42_53 := rfl
noncomputable def k_42_6 : List Instr := .iload 1 :: .iconst 1000 :: .if_icmp .ge 53 :: .aload 0 :: .getfield 384 :: .getstatic 1000000006 :: .invokevirtual 73 :: .ifCond .eq 53 :: .aload 0 :: .getfield 384 :: .invokevirtual 67 :: .aload 0 :: .invokevirtual 43 :: .aload 0 :: .getfield 387 :: .iconst 11 :: .iconst 0 :: .invokevirtual 1 :: .iinc 1 1 :: .goto 6 :: k_42_53
theorem fl_42_1 : m_fl (s_42.drop 1) = k_42_6 := (show m_fl (s_42.drop 1) = [.iload 1, .iconst 1000, .if_icmp .ge 53, .aload 0, .getfield 384, .getstatic 1000000006, .invokevirtual 73, .ifCond .eq 53, .aload 0, .getfield 384, .invokevirtual 67, .aload 0, .invokevirtual 43, .aload 0, .getfield 387, .iconst 11, .iconst 0, .invokevirtual 1, .iinc 1 1, .goto 6] ++ m_fl (s_42.drop 2) from rfl).trans (by rw [fl_42_2]; rfl)
noncomputable def k_42_0 : List Instr := .aload 0 :: .invokevirtual 43 :: .iconst 0 :: .istore 1 :: k_42_6
theorem fl_42_0 : m_fl (s_42.drop 0) = k_42_0 := (show m_fl (s_42.drop 0) = [.aload 0, .invokevirtual 43, .iconst 0, .istore 1] ++ m_fl (s_42.drop 1) from rfl).trans (by rw [fl_42_1]; rfl)
theorem tn_42_0 {L : Nat} {xs : Nat → Int32} : m_tg (p_P L xs) 42 0 = k_42_0 := (show m_tgl s_42 0 = m_fl (s_42.drop 0) from rfl).trans fl_42_0
theorem tg_42_6 {L : Nat} {xs : Nat → Int32} : m_tg (p_P L xs) 42 6 = k_42_6 := (show m_tgl s_42 6 = m_fl (s_42.drop 1) from rfl).trans fl_42_1
theorem tg_42_53 {L : Nat} {xs : Nat → Int32} : m_tg (p_P L xs) 42 53 = k_42_53 := (show m_tgl s_42 53 = m_fl (s_42.drop 2) from rfl).trans fl_42_2
noncomputable def k_43_53 : List Instr := .return_ :: []
theorem fl_43_2 : m_fl (s_43.drop 2) = k_43_53 := rfl
noncomputable def k_43_6 : List Instr := .iload 1 :: .iconst 1000 :: .if_icmp .ge 53 :: .aload 0 :: .getfield 384 :: .getstatic 1000000007 :: .invokevirtual 73 :: .ifCond .eq 53 :: .aload 0 :: .getfield 384 :: .invokevirtual 67 :: .aload 0 :: .invokevirtual 44 :: .aload 0 :: .getfield 387 :: .iconst 10 :: .iconst 0 :: .invokevirtual 1 :: .iinc 1 1 :: .goto 6 :: k_43_53
theorem fl_43_1 : m_fl (s_43.drop 1) = k_43_6 := (show m_fl (s_43.drop 1) = [.iload 1, .iconst 1000, .if_icmp .ge 53, .aload 0, .getfield 384, .getstatic 1000000007, .invokevirtual 73, .ifCond .eq 53, .aload 0, .getfield 384, .invokevirtual 67, .aload 0, .invokevirtual 44, .aload 0, .getfield 387, .iconst 10, .iconst 0, .invokevirtual 1, .iinc 1 1, .goto 6] ++ m_fl (s_43.drop 2) from rfl).trans (by rw [fl_43_2]; rfl)
noncomputable def k_43_0 : List Instr := .aload 0 :: .invokevirtual 44 :: .iconst 0 :: .istore 1 :: k_43_6
theorem fl_43_0 : m_fl (s_43.drop 0) = k_43_0 := (show m_fl (s_43.drop 0) = [.aload 0, .invokevirtual 44, .iconst 0, .istore 1] ++ m_fl (s_43.drop 1) from rfl).trans (by rw [fl_43_1]; rfl)
theorem tn_43_0 {L : Nat} {xs : Nat → Int32} : m_tg (p_P L xs) 43 0 = k_43_0 := (show m_tgl s_43 0 = m_fl (s_43.drop 0) from rfl).trans fl_43_0
theorem tg_43_6 {L : Nat} {xs : Nat → Int32} : m_tg (p_P L xs) 43 6 = k_43_6 := (show m_tgl s_43 6 = m_fl (s_43.drop 1) from rfl).trans fl_43_1
theorem tg_43_53 {L : Nat} {xs : Nat → Int32} : m_tg (p_P L xs) 43 53 = k_43_53 := (show m_tgl s_43 53 = m_fl (s_43.drop 2) from rfl).trans fl_43_2
noncomputable def k_44_166 : List Instr := .return_ :: []
theorem fl_44_8 : m_fl (s_44.drop 8) = k_44_166 := rfl
noncomputable def k_44_144 : List Instr := .aload 0 :: .invokevirtual 48 :: .aload 0 :: .invokevirtual 46 :: .istore 1 :: .aload 0 :: .invokevirtual 48 :: .aload 0 :: .getfield 387 :: .iload 1 :: .iconst 0 :: .invokevirtual 1 :: k_44_166
theorem fl_44_7 : m_fl (s_44.drop 7) = k_44_144 := (show m_fl (s_44.drop 7) = [.aload 0, .invokevirtual 48, .aload 0, .invokevirtual 46, .istore 1, .aload 0, .invokevirtual 48, .aload 0, .getfield 387, .iload 1, .iconst 0, .invokevirtual 1] ++ m_fl (s_44.drop 8) from rfl).trans (by rw [fl_44_8]; rfl)
noncomputable def k_44_112 : List Instr := .aload 0 :: .getfield 385 :: .ifCond .eq 144 :: .aload 0 :: .invokevirtual 47 :: .aload 0 :: .invokevirtual 46 :: .istore 1 :: .aload 0 :: .invokevirtual 47 :: .aload 0 :: .getfield 387 :: .iload 1 :: .iconst 0 :: .invokevirtual 1 :: .goto 166 :: k_44_144
theorem fl_44_6 : m_fl (s_44.drop 6) = k_44_112 := (show m_fl (s_44.drop 6) = [.aload 0, .getfield 385, .ifCond .eq 144, .aload 0, .invokevirtual 47, .aload 0, .invokevirtual 46, .istore 1, .aload 0, .invokevirtual 47, .aload 0, .getfield 387, .iload 1, .iconst 0, .invokevirtual 1, .goto 166] ++ m_fl (s_44.drop 7) from rfl).trans (by rw [fl_44_7]; rfl)
noncomputable def k_44_96 : List Instr := .invokevirtual 35 :: .aload 0 :: .dup :: .getfield 389 :: .iconst 1 :: .isub :: .putfield 389 :: .goto 166 :: k_44_112
theorem fl_44_5 : m_fl (s_44.drop 5) = k_44_96 := (show m_fl (s_44.drop 5) = [.invokevirtual 35, .aload 0, .dup, .getfield 389, .iconst 1, .isub, .putfield 389, .goto 166] ++ m_fl (s_44.drop 6) from rfl).trans (by rw [fl_44_6]; rfl)
noncomputable def k_44_94 : List Instr := .iconst 93 :: k_44_96
theorem fl_44_4 : m_fl (s_44.drop 4) = k_44_94 := (show m_fl (s_44.drop 4) = [.iconst 93] ++ m_fl (s_44.drop 5) from rfl).trans (by rw [fl_44_5]; rfl)
noncomputable def k_44_64 : List Instr := .invokevirtual 72 :: .ifCond .eq 112 :: .aload 0 :: .invokevirtual 45 :: .ifCond .eq 166 :: .aload 0 :: .invokevirtual 42 :: .aload 0 :: .aload 0 :: .getfield 385 :: .ifCond .eq 94 :: .iconst 41 :: .goto 96 :: k_44_94
theorem fl_44_3 : m_fl (s_44.drop 3) = k_44_64 := (show m_fl (s_44.drop 3) = [.invokevirtual 72, .ifCond .eq 112, .aload 0, .invokevirtual 45, .ifCond .eq 166, .aload 0, .invokevirtual 42, .aload 0, .aload 0, .getfield 385, .ifCond .eq 94, .iconst 41, .goto 96] ++ m_fl (s_44.drop 4) from rfl).trans (by rw [fl_44_4]; rfl)
noncomputable def k_44_62 : List Instr := .iconst 91 :: k_44_64
theorem fl_44_2 : m_fl (s_44.drop 2) = k_44_62 := (show m_fl (s_44.drop 2) = [.iconst 91] ++ m_fl (s_44.drop 3) from rfl).trans (by rw [fl_44_3]; rfl)
noncomputable def k_44_46 : List Instr := .aload 0 :: .getfield 384 :: .aload 0 :: .getfield 385 :: .ifCond .eq 62 :: .iconst 40 :: .goto 64 :: k_44_62
theorem fl_44_1 : m_fl (s_44.drop 1) = k_44_46 := (show m_fl (s_44.drop 1) = [.aload 0, .getfield 384, .aload 0, .getfield 385, .ifCond .eq 62, .iconst 40, .goto 64] ++ m_fl (s_44.drop 2) from rfl).trans (by rw [fl_44_2]; rfl)
noncomputable def k_44_0 : List Instr := .aload 0 :: .getfield 384 :: .getstatic 1000000008 :: .invokevirtual 73 :: .ifCond .eq 46 :: .aload 0 :: .invokevirtual 45 :: .ifCond .eq 166 :: .aload 0 :: .invokevirtual 44 :: .aload 0 :: .getfield 387 :: .iconst 3 :: .iconst 0 :: .invokevirtual 1 :: .aload 0 :: .dup :: .getfield 389 :: .iconst 1 :: .isub :: .putfield 389 :: .goto 166 :: k_44_46
theorem fl_44_0 : m_fl (s_44.drop 0) = k_44_0 := (show m_fl (s_44.drop 0) = [.aload 0, .getfield 384, .getstatic 1000000008, .invokevirtual 73, .ifCond .eq 46, .aload 0, .invokevirtual 45, .ifCond .eq 166, .aload 0, .invokevirtual 44, .aload 0, .getfield 387, .iconst 3, .iconst 0, .invokevirtual 1, .aload 0, .dup, .getfield 389, .iconst 1, .isub, .putfield 389, .goto 166] ++ m_fl (s_44.drop 1) from rfl).trans (by rw [fl_44_1]; rfl)
theorem tn_44_0 {L : Nat} {xs : Nat → Int32} : m_tg (p_P L xs) 44 0 = k_44_0 := (show m_tgl s_44 0 = m_fl (s_44.drop 0) from rfl).trans fl_44_0
theorem tg_44_46 {L : Nat} {xs : Nat → Int32} : m_tg (p_P L xs) 44 46 = k_44_46 := (show m_tgl s_44 46 = m_fl (s_44.drop 1) from rfl).trans fl_44_1
theorem tg_44_62 {L : Nat} {xs : Nat → Int32} : m_tg (p_P L xs) 44 62 = k_44_62 := (show m_tgl s_44 62 = m_fl (s_44.drop 2) from rfl).trans fl_44_2
theorem tg_44_64 {L : Nat} {xs : Nat → Int32} : m_tg (p_P L xs) 44 64 = k_44_64 := (show m_tgl s_44 64 = m_fl (s_44.drop 3) from rfl).trans fl_44_3
theorem tg_44_94 {L : Nat} {xs : Nat → Int32} : m_tg (p_P L xs) 44 94 = k_44_94 := (show m_tgl s_44 94 = m_fl (s_44.drop 4) from rfl).trans fl_44_4
theorem tg_44_96 {L : Nat} {xs : Nat → Int32} : m_tg (p_P L xs) 44 96 = k_44_96 := (show m_tgl s_44 96 = m_fl (s_44.drop 5) from rfl).trans fl_44_5
theorem tg_44_112 {L : Nat} {xs : Nat → Int32} : m_tg (p_P L xs) 44 112 = k_44_112 := (show m_tgl s_44 112 = m_fl (s_44.drop 6) from rfl).trans fl_44_6
theorem tg_44_144 {L : Nat} {xs : Nat → Int32} : m_tg (p_P L xs) 44 144 = k_44_144 := (show m_tgl s_44 144 = m_fl (s_44.drop 7) from rfl).trans fl_44_7
theorem tg_44_166 {L : Nat} {xs : Nat → Int32} : m_tg (p_P L xs) 44 166 = k_44_166 := (show m_tgl s_44 166 = m_fl (s_44.drop 8) from rfl).trans fl_44_8
noncomputable def k_45_19 : List Instr := .aload 0 :: .dup :: .getfield 389 :: .iconst 1 :: .iadd :: .putfield 389 :: .aload 0 :: .getfield 384 :: .invokevirtual 67 :: .iconst 1 :: .ret 0 :: []
theorem fl_45_1 : m_fl (s_45.drop 1) = k_45_19 := rfl
noncomputable def k_45_0 : List Instr := .aload 0 :: .getfield 389 :: .iconst 6 :: .if_icmp .lt 19 :: .aload 0 :: .getfield 384 :: .iconst 3 :: .invokevirtual 75 :: .iconst 0 :: .ret 0 :: k_45_19
theorem fl_45_0 : m_fl (s_45.drop 0) = k_45_0 := (show m_fl (s_45.drop 0) = [.aload 0, .getfield 389, .iconst 6, .if_icmp .lt 19, .aload 0, .getfield 384, .iconst 3, .invokevirtual 75, .iconst 0, .ret 0] ++ m_fl (s_45.drop 1) from rfl).trans (by rw [fl_45_1]; rfl)
theorem tn_45_0 {L : Nat} {xs : Nat → Int32} : m_tg (p_P L xs) 45 0 = k_45_0 := (show m_tgl s_45 0 = m_fl (s_45.drop 0) from rfl).trans fl_45_0
theorem tg_45_19 {L : Nat} {xs : Nat → Int32} : m_tg (p_P L xs) 45 19 = k_45_19 := (show m_tgl s_45 19 = m_fl (s_45.drop 1) from rfl).trans fl_45_1
noncomputable def k_46_63 : List Instr := .aload 0 :: .getfield 384 :: .invokevirtual 67 :: .iload 1 :: .ireturn :: []
theorem fl_46_4 : m_fl (s_46.drop 4) = k_46_63 := rfl
noncomputable def k_46_36 : List Instr := .istore 1 :: .iload 1 :: .iconst 8 :: .if_icmp .ne 63 :: .aload 0 :: .getfield 384 :: .iconst 61 :: .invokevirtual 72 :: .ifCond .ne 63 :: .aload 0 :: .getfield 384 :: .iconst 1 :: .invokevirtual 75 :: k_46_63
theorem fl_46_3 : m_fl (s_46.drop 3) = k_46_36 := (show m_fl (s_46.drop 3) = [.istore 1, .iload 1, .iconst 8, .if_icmp .ne 63, .aload 0, .getfield 384, .iconst 61, .invokevirtual 72, .ifCond .ne 63, .aload 0, .getfield 384, .iconst 1, .invokevirtual 75] ++ m_fl (s_46.drop 4) from rfl).trans (by rw [fl_46_4]; rfl)
noncomputable def k_46_34 : List Instr := .iconst 8 :: k_46_36
theorem fl_46_2 : m_fl (s_46.drop 2) = k_46_34 := (show m_fl (s_46.drop 2) = [.iconst 8] ++ m_fl (s_46.drop 3) from rfl).trans (by rw [fl_46_3]; rfl)
noncomputable def k_46_17 : List Instr := .aload 0 :: .getfield 384 :: .iconst 62 :: .invokevirtual 72 :: .ifCond .eq 34 :: .iconst 9 :: .goto 36 :: k_46_34
theorem fl_46_1 : m_fl (s_46.drop 1) = k_46_17 := (show m_fl (s_46.drop 1) = [.aload 0, .getfield 384, .iconst 62, .invokevirtual 72, .ifCond .eq 34, .iconst 9, .goto 36] ++ m_fl (s_46.drop 2) from rfl).trans (by rw [fl_46_2]; rfl)
noncomputable def k_46_0 : List Instr := .aload 0 :: .getfield 384 :: .iconst 60 :: .invokevirtual 72 :: .ifCond .eq 17 :: .iconst 7 :: .goto 36 :: k_46_17
theorem fl_46_0 : m_fl (s_46.drop 0) = k_46_0 := (show m_fl (s_46.drop 0) = [.aload 0, .getfield 384, .iconst 60, .invokevirtual 72, .ifCond .eq 17, .iconst 7, .goto 36] ++ m_fl (s_46.drop 1) from rfl).trans (by rw [fl_46_1]; rfl)
theorem tn_46_0 {L : Nat} {xs : Nat → Int32} : m_tg (p_P L xs) 46 0 = k_46_0 := (show m_tgl s_46 0 = m_fl (s_46.drop 0) from rfl).trans fl_46_0
theorem tg_46_17 {L : Nat} {xs : Nat → Int32} : m_tg (p_P L xs) 46 17 = k_46_17 := (show m_tgl s_46 17 = m_fl (s_46.drop 1) from rfl).trans fl_46_1
theorem tg_46_34 {L : Nat} {xs : Nat → Int32} : m_tg (p_P L xs) 46 34 = k_46_34 := (show m_tgl s_46 34 = m_fl (s_46.drop 2) from rfl).trans fl_46_2
theorem tg_46_36 {L : Nat} {xs : Nat → Int32} : m_tg (p_P L xs) 46 36 = k_46_36 := (show m_tgl s_46 36 = m_fl (s_46.drop 3) from rfl).trans fl_46_3
theorem tg_46_63 {L : Nat} {xs : Nat → Int32} : m_tg (p_P L xs) 46 63 = k_46_63 := (show m_tgl s_46 63 = m_fl (s_46.drop 4) from rfl).trans fl_46_4
noncomputable def k_47_79 : List Instr := .return_ :: []
theorem fl_47_3 : m_fl (s_47.drop 3) = k_47_79 := rfl
noncomputable def k_47_71 : List Instr := .aload 0 :: .getfield 384 :: .iconst 1 :: .invokevirtual 75 :: k_47_79
theorem fl_47_2 : m_fl (s_47.drop 2) = k_47_71 := (show m_fl (s_47.drop 2) = [.aload 0, .getfield 384, .iconst 1, .invokevirtual 75] ++ m_fl (s_47.drop 3) from rfl).trans (by rw [fl_47_3]; rfl)
noncomputable def k_47_37 : List Instr := .aload 1 :: .ifnull 71 :: .aload 1 :: .ldc 2 :: .iconst (-1) :: .if_icmp .eq 71 :: .aload 0 :: .getfield 387 :: .iconst 1 :: .aload 1 :: .ldc 2 :: .invokevirtual 1 :: .aload 0 :: .getfield 384 :: .invokevirtual 67 :: .goto 79 :: k_47_71
theorem fl_47_1 : m_fl (s_47.drop 1) = k_47_37 := (show m_fl (s_47.drop 1) = [.aload 1, .ifnull 71, .aload 1, .ldc 2, .iconst (-1), .if_icmp .eq 71, .aload 0, .getfield 387, .iconst 1, .aload 1, .ldc 2, .invokevirtual 1, .aload 0, .getfield 384, .invokevirtual 67, .goto 79] ++ m_fl (s_47.drop 2) from rfl).trans (by rw [fl_47_2]; rfl)
noncomputable def k_47_0 : List Instr := .aload 0 :: .getfield 384 :: .invokevirtual 69 :: .astore 1 :: .aload 0 :: .getfield 384 :: .invokevirtual 71 :: .ifCond .eq 37 :: .aload 0 :: .getfield 387 :: .iconst 0 :: .aload 0 :: .iconst 0 :: .iconst (99999) :: .invokevirtual 36 :: .invokevirtual 1 :: .goto 79 :: k_47_37
theorem fl_47_0 : m_fl (s_47.drop 0) = k_47_0 := (show m_fl (s_47.drop 0) = [.aload 0, .getfield 384, .invokevirtual 69, .astore 1, .aload 0, .getfield 384, .invokevirtual 71, .ifCond .eq 37, .aload 0, .getfield 387, .iconst 0, .aload 0, .iconst 0, .iconst (99999), .invokevirtual 36, .invokevirtual 1, .goto 79] ++ m_fl (s_47.drop 1) from rfl).trans (by rw [fl_47_1]; rfl)
theorem tn_47_0 {L : Nat} {xs : Nat → Int32} : m_tg (p_P L xs) 47 0 = k_47_0 := (show m_tgl s_47 0 = m_fl (s_47.drop 0) from rfl).trans fl_47_0
theorem tg_47_37 {L : Nat} {xs : Nat → Int32} : m_tg (p_P L xs) 47 37 = k_47_37 := (show m_tgl s_47 37 = m_fl (s_47.drop 1) from rfl).trans fl_47_1
theorem tg_47_71 {L : Nat} {xs : Nat → Int32} : m_tg (p_P L xs) 47 71 = k_47_71 := (show m_tgl s_47 71 = m_fl (s_47.drop 2) from rfl).trans fl_47_2
theorem tg_47_79 {L : Nat} {xs : Nat → Int32} : m_tg (p_P L xs) 47 79 = k_47_79 := (show m_tgl s_47 79 = m_fl (s_47.drop 3) from rfl).trans fl_47_3
noncomputable def k_48_81 : List Instr := .return_ :: []
theorem fl_48_5 : m_fl (s_48.drop 5) = k_48_81 := rfl
noncomputable def k_48_54 : List Instr := .istore 2 :: .aload 0 :: .getfield 384 :: .invokevirtual 67 :: .aload 0 :: .invokevirtual 49 :: .aload 0 :: .getfield 387 :: .iload 2 :: .iconst 0 :: .invokevirtual 1 :: .iinc 1 1 :: .goto 6 :: k_48_81
theorem fl_48_4 : m_fl (s_48.drop 4) = k_48_54 := (show m_fl (s_48.drop 4) = [.istore 2, .aload 0, .getfield 384, .invokevirtual 67, .aload 0, .invokevirtual 49, .aload 0, .getfield 387, .iload 2, .iconst 0, .invokevirtual 1, .iinc 1 1, .goto 6] ++ m_fl (s_48.drop 5) from rfl).trans (by rw [fl_48_5]; rfl)
noncomputable def k_48_53 : List Instr := .iconst 5 :: k_48_54
theorem fl_48_3 : m_fl (s_48.drop 3) = k_48_53 := (show m_fl (s_48.drop 3) = [.iconst 5] ++ m_fl (s_48.drop 4) from rfl).trans (by rw [fl_48_4]; rfl)
noncomputable def k_48_37 : List Instr := .aload 0 :: .getfield 384 :: .iconst 43 :: .invokevirtual 72 :: .ifCond .eq 53 :: .iconst 4 :: .goto 54 :: k_48_53
theorem fl_48_2 : m_fl (s_48.drop 2) = k_48_37 := (show m_fl (s_48.drop 2) = [.aload 0, .getfield 384, .iconst 43, .invokevirtual 72, .ifCond .eq 53, .iconst 4, .goto 54] ++ m_fl (s_48.drop 3) from rfl).trans (by rw [fl_48_3]; rfl)
noncomputable def k_48_6 : List Instr := .iload 1 :: .iconst 1000 :: .if_icmp .ge 81 :: .aload 0 :: .getfield 384 :: .iconst 43 :: .invokevirtual 72 :: .ifCond .ne 37 :: .aload 0 :: .getfield 384 :: .iconst 45 :: .invokevirtual 72 :: .ifCond .eq 81 :: k_48_37
theorem fl_48_1 : m_fl (s_48.drop 1) = k_48_6 := (show m_fl (s_48.drop 1) = [.iload 1, .iconst 1000, .if_icmp .ge 81, .aload 0, .getfield 384, .iconst 43, .invokevirtual 72, .ifCond .ne 37, .aload 0, .getfield 384, .iconst 45, .invokevirtual 72, .ifCond .eq 81] ++ m_fl (s_48.drop 2) from rfl).trans (by rw [fl_48_2]; rfl)
noncomputable def k_48_0 : List Instr := .aload 0 :: .invokevirtual 49 :: .iconst 0 :: .istore 1 :: k_48_6
theorem fl_48_0 : m_fl (s_48.drop 0) = k_48_0 := (show m_fl (s_48.drop 0) = [.aload 0, .invokevirtual 49, .iconst 0, .istore 1] ++ m_fl (s_48.drop 1) from rfl).trans (by rw [fl_48_1]; rfl)
theorem tn_48_0 {L : Nat} {xs : Nat → Int32} : m_tg (p_P L xs) 48 0 = k_48_0 := (show m_tgl s_48 0 = m_fl (s_48.drop 0) from rfl).trans fl_48_0
theorem tg_48_6 {L : Nat} {xs : Nat → Int32} : m_tg (p_P L xs) 48 6 = k_48_6 := (show m_tgl s_48 6 = m_fl (s_48.drop 1) from rfl).trans fl_48_1
theorem tg_48_37 {L : Nat} {xs : Nat → Int32} : m_tg (p_P L xs) 48 37 = k_48_37 := (show m_tgl s_48 37 = m_fl (s_48.drop 2) from rfl).trans fl_48_2
theorem tg_48_53 {L : Nat} {xs : Nat → Int32} : m_tg (p_P L xs) 48 53 = k_48_53 := (show m_tgl s_48 53 = m_fl (s_48.drop 3) from rfl).trans fl_48_3
theorem tg_48_54 {L : Nat} {xs : Nat → Int32} : m_tg (p_P L xs) 48 54 = k_48_54 := (show m_tgl s_48 54 = m_fl (s_48.drop 4) from rfl).trans fl_48_4
theorem tg_48_81 {L : Nat} {xs : Nat → Int32} : m_tg (p_P L xs) 48 81 = k_48_81 := (show m_tgl s_48 81 = m_fl (s_48.drop 5) from rfl).trans fl_48_5
noncomputable def k_49_52 : List Instr := .return_ :: []
theorem fl_49_2 : m_fl (s_49.drop 2) = k_49_52 := rfl
noncomputable def k_49_6 : List Instr := .iload 1 :: .iconst 1000 :: .if_icmp .ge 52 :: .aload 0 :: .getfield 384 :: .iconst 42 :: .invokevirtual 72 :: .ifCond .eq 52 :: .aload 0 :: .getfield 384 :: .invokevirtual 67 :: .aload 0 :: .invokevirtual 50 :: .aload 0 :: .getfield 387 :: .iconst 6 :: .iconst 0 :: .invokevirtual 1 :: .iinc 1 1 :: .goto 6 :: k_49_52
theorem fl_49_1 : m_fl (s_49.drop 1) = k_49_6 := (show m_fl (s_49.drop 1) = [.iload 1, .iconst 1000, .if_icmp .ge 52, .aload 0, .getfield 384, .iconst 42, .invokevirtual 72, .ifCond .eq 52, .aload 0, .getfield 384, .invokevirtual 67, .aload 0, .invokevirtual 50, .aload 0, .getfield 387, .iconst 6, .iconst 0, .invokevirtual 1, .iinc 1 1, .goto 6] ++ m_fl (s_49.drop 2) from rfl).trans (by rw [fl_49_2]; rfl)
noncomputable def k_49_0 : List Instr := .aload 0 :: .invokevirtual 50 :: .iconst 0 :: .istore 1 :: k_49_6
theorem fl_49_0 : m_fl (s_49.drop 0) = k_49_0 := (show m_fl (s_49.drop 0) = [.aload 0, .invokevirtual 50, .iconst 0, .istore 1] ++ m_fl (s_49.drop 1) from rfl).trans (by rw [fl_49_1]; rfl)
theorem tn_49_0 {L : Nat} {xs : Nat → Int32} : m_tg (p_P L xs) 49 0 = k_49_0 := (show m_tgl s_49 0 = m_fl (s_49.drop 0) from rfl).trans fl_49_0
theorem tg_49_6 {L : Nat} {xs : Nat → Int32} : m_tg (p_P L xs) 49 6 = k_49_6 := (show m_tgl s_49 6 = m_fl (s_49.drop 1) from rfl).trans fl_49_1
theorem tg_49_52 {L : Nat} {xs : Nat → Int32} : m_tg (p_P L xs) 49 52 = k_49_52 := (show m_tgl s_49 52 = m_fl (s_49.drop 2) from rfl).trans fl_49_2
noncomputable def k_50_254 : List Instr := .return_ :: []
theorem fl_50_8 : m_fl (s_50.drop 8) = k_50_254 := rfl
noncomputable def k_50_246 : List Instr := .aload 0 :: .getfield 384 :: .iconst 1 :: .invokevirtual 75 :: k_50_254
theorem fl_50_7 : m_fl (s_50.drop 7) = k_50_246 := (show m_fl (s_50.drop 7) = [.aload 0, .getfield 384, .iconst 1, .invokevirtual 75] ++ m_fl (s_50.drop 8) from rfl).trans (by rw [fl_50_8]; rfl)
noncomputable def k_50_226 : List Instr := .aload 0 :: .getfield 384 :: .invokevirtual 67 :: .aload 0 :: .getfield 387 :: .iconst 1 :: .iconst 13 :: .invokevirtual 1 :: .goto 254 :: k_50_246
theorem fl_50_6 : m_fl (s_50.drop 6) = k_50_226 := (show m_fl (s_50.drop 6) = [.aload 0, .getfield 384, .invokevirtual 67, .aload 0, .getfield 387, .iconst 1, .iconst 13, .invokevirtual 1, .goto 254] ++ m_fl (s_50.drop 7) from rfl).trans (by rw [fl_50_7]; rfl)
noncomputable def k_50_197 : List Instr := .aload 0 :: .getfield 384 :: .getstatic 1000000012 :: .invokevirtual 73 :: .ifCond .eq 246 :: .aload 0 :: .getfield 390 :: .iconst 2 :: .if_icmp .eq 226 :: .aload 0 :: .getfield 390 :: .iconst 3 :: .if_icmp .ne 246 :: k_50_226
theorem fl_50_5 : m_fl (s_50.drop 5) = k_50_197 := (show m_fl (s_50.drop 5) = [.aload 0, .getfield 384, .getstatic 1000000012, .invokevirtual 73, .ifCond .eq 246, .aload 0, .getfield 390, .iconst 2, .if_icmp .eq 226, .aload 0, .getfield 390, .iconst 3, .if_icmp .ne 246] ++ m_fl (s_50.drop 6) from rfl).trans (by rw [fl_50_6]; rfl)
noncomputable def k_50_164 : List Instr := .aload 0 :: .getfield 384 :: .getstatic 1000000011 :: .invokevirtual 73 :: .ifCond .eq 197 :: .aload 0 :: .getfield 384 :: .invokevirtual 67 :: .aload 0 :: .getfield 387 :: .iconst 1 :: .iconst 12 :: .invokevirtual 1 :: .goto 254 :: k_50_197
theorem fl_50_4 : m_fl (s_50.drop 4) = k_50_164 := (show m_fl (s_50.drop 4) = [.aload 0, .getfield 384, .getstatic 1000000011, .invokevirtual 73, .ifCond .eq 197, .aload 0, .getfield 384, .invokevirtual 67, .aload 0, .getfield 387, .iconst 1, .iconst 12, .invokevirtual 1, .goto 254] ++ m_fl (s_50.drop 5) from rfl).trans (by rw [fl_50_5]; rfl)
noncomputable def k_50_117 : List Instr := .aload 0 :: .getfield 384 :: .getstatic 1000000010 :: .invokevirtual 73 :: .ifCond .eq 164 :: .aload 0 :: .getfield 390 :: .ifCond .eq 164 :: .aload 0 :: .getfield 384 :: .invokevirtual 67 :: .aload 0 :: .getfield 387 :: .iconst 1 :: .iconst 8 :: .aload 0 :: .iconst 0 :: .iconst 3 :: .invokevirtual 36 :: .iadd :: .invokevirtual 1 :: .goto 254 :: k_50_164
theorem fl_50_3 : m_fl (s_50.drop 3) = k_50_117 := (show m_fl (s_50.drop 3) = [.aload 0, .getfield 384, .getstatic 1000000010, .invokevirtual 73, .ifCond .eq 164, .aload 0, .getfield 390, .ifCond .eq 164, .aload 0, .getfield 384, .invokevirtual 67, .aload 0, .getfield 387, .iconst 1, .iconst 8, .aload 0, .iconst 0, .iconst 3, .invokevirtual 36, .iadd, .invokevirtual 1, .goto 254] ++ m_fl (s_50.drop 4) from rfl).trans (by rw [fl_50_4]; rfl)
noncomputable def k_50_71 : List Instr := .aload 0 :: .getfield 384 :: .getstatic 1000000009 :: .invokevirtual 73 :: .ifCond .eq 117 :: .aload 0 :: .getfield 390 :: .iconst 3 :: .if_icmp .eq 117 :: .aload 0 :: .getfield 384 :: .invokevirtual 67 :: .aload 0 :: .getfield 387 :: .iconst 1 :: .aload 0 :: .iconst 0 :: .iconst 7 :: .invokevirtual 36 :: .invokevirtual 1 :: .goto 254 :: k_50_117
theorem fl_50_2 : m_fl (s_50.drop 2) = k_50_71 := (show m_fl (s_50.drop 2) = [.aload 0, .getfield 384, .getstatic 1000000009, .invokevirtual 73, .ifCond .eq 117, .aload 0, .getfield 390, .iconst 3, .if_icmp .eq 117, .aload 0, .getfield 384, .invokevirtual 67, .aload 0, .getfield 387, .iconst 1, .aload 0, .iconst 0, .iconst 7, .invokevirtual 36, .invokevirtual 1, .goto 254] ++ m_fl (s_50.drop 3) from rfl).trans (by rw [fl_50_3]; rfl)
noncomputable def k_50_29 : List Instr := .aload 0 :: .getfield 384 :: .iconst 40 :: .invokevirtual 72 :: .ifCond .eq 71 :: .aload 0 :: .invokevirtual 45 :: .ifCond .eq 254 :: .aload 0 :: .invokevirtual 48 :: .aload 0 :: .iconst 41 :: .invokevirtual 35 :: .aload 0 :: .dup :: .getfield 389 :: .iconst 1 :: .isub :: .putfield 389 :: .goto 254 :: k_50_71
theorem fl_50_1 : m_fl (s_50.drop 1) = k_50_29 := (show m_fl (s_50.drop 1) = [.aload 0, .getfield 384, .iconst 40, .invokevirtual 72, .ifCond .eq 71, .aload 0, .invokevirtual 45, .ifCond .eq 254, .aload 0, .invokevirtual 48, .aload 0, .iconst 41, .invokevirtual 35, .aload 0, .dup, .getfield 389, .iconst 1, .isub, .putfield 389, .goto 254] ++ m_fl (s_50.drop 2) from rfl).trans (by rw [fl_50_2]; rfl)
noncomputable def k_50_0 : List Instr := .aload 0 :: .getfield 384 :: .invokevirtual 71 :: .ifCond .eq 29 :: .aload 0 :: .getfield 387 :: .iconst 0 :: .aload 0 :: .iconst 0 :: .iconst (65535) :: .invokevirtual 36 :: .invokevirtual 1 :: .goto 254 :: k_50_29
theorem fl_50_0 : m_fl (s_50.drop 0) = k_50_0 := (show m_fl (s_50.drop 0) = [.aload 0, .getfield 384, .invokevirtual 71, .ifCond .eq 29, .aload 0, .getfield 387, .iconst 0, .aload 0, .iconst 0, .iconst (65535), .invokevirtual 36, .invokevirtual 1, .goto 254] ++ m_fl (s_50.drop 1) from rfl).trans (by rw [fl_50_1]; rfl)
theorem tn_50_0 {L : Nat} {xs : Nat → Int32} : m_tg (p_P L xs) 50 0 = k_50_0 := (show m_tgl s_50 0 = m_fl (s_50.drop 0) from rfl).trans fl_50_0
theorem tg_50_29 {L : Nat} {xs : Nat → Int32} : m_tg (p_P L xs) 50 29 = k_50_29 := (show m_tgl s_50 29 = m_fl (s_50.drop 1) from rfl).trans fl_50_1
theorem tg_50_71 {L : Nat} {xs : Nat → Int32} : m_tg (p_P L xs) 50 71 = k_50_71 := (show m_tgl s_50 71 = m_fl (s_50.drop 2) from rfl).trans fl_50_2
theorem tg_50_117 {L : Nat} {xs : Nat → Int32} : m_tg (p_P L xs) 50 117 = k_50_117 := (show m_tgl s_50 117 = m_fl (s_50.drop 3) from rfl).trans fl_50_3
theorem tg_50_164 {L : Nat} {xs : Nat → Int32} : m_tg (p_P L xs) 50 164 = k_50_164 := (show m_tgl s_50 164 = m_fl (s_50.drop 4) from rfl).trans fl_50_4
theorem tg_50_197 {L : Nat} {xs : Nat → Int32} : m_tg (p_P L xs) 50 197 = k_50_197 := (show m_tgl s_50 197 = m_fl (s_50.drop 5) from rfl).trans fl_50_5
theorem tg_50_226 {L : Nat} {xs : Nat → Int32} : m_tg (p_P L xs) 50 226 = k_50_226 := (show m_tgl s_50 226 = m_fl (s_50.drop 6) from rfl).trans fl_50_6
theorem tg_50_246 {L : Nat} {xs : Nat → Int32} : m_tg (p_P L xs) 50 246 = k_50_246 := (show m_tgl s_50 246 = m_fl (s_50.drop 7) from rfl).trans fl_50_7
theorem tg_50_254 {L : Nat} {xs : Nat → Int32} : m_tg (p_P L xs) 50 254 = k_50_254 := (show m_tgl s_50 254 = m_fl (s_50.drop 8) from rfl).trans fl_50_8
noncomputable def k_51_0 : List Instr := .aload 0 :: .invokespecial 9000 :: .aload 0 :: .iconst 0 :: .putfield 449 :: .aload 0 :: .iconst 0 :: .putfield 450 :: .aload 0 :: .iconst 0 :: .putfield 451 :: .aload 0 :: .iconst 0 :: .putfield 452 :: .aload 0 :: .iconst 0 :: .putfield 453 :: .aload 0 :: .iconst 0 :: .putfield 454 :: .aload 0 :: .iconst 0 :: .putfield 455 :: .aload 0 :: .iconst 0 :: .putfield 456 :: .aload 0 :: .iconst 0 :: .putfield 457 :: .aload 0 :: .iconst 0 :: .putfield 458 :: .aload 0 :: .iconst 0 :: .putfield 459 :: .aload 0 :: .iconst 0 :: .putfield 460 :: .aload 0 :: .iconst 0 :: .putfield 461 :: .aload 0 :: .iconst 0 :: .putfield 462 :: .aload 0 :: .iconst (-1) :: .putfield 463 :: .aload 0 :: .iload 1 :: .putfield 448 :: .return_ :: []
theorem fl_51_0 : m_fl (s_51.drop 0) = k_51_0 := rfl
theorem tn_51_0 {L : Nat} {xs : Nat → Int32} : m_tg (p_P L xs) 51 0 = k_51_0 := (show m_tgl s_51 0 = m_fl (s_51.drop 0) from rfl).trans fl_51_0
noncomputable def k_52_0 : List Instr := .aload 0 :: .iload 1 :: .putfield 449 :: .aload 0 :: .iload 2 :: .putfield 450 :: .aload 0 :: .iconst 0 :: .putfield 451 :: .aload 0 :: .iconst 0 :: .putfield 452 :: .aload 0 :: .iconst 0 :: .putfield 453 :: .aload 0 :: .iload 3 :: .putfield 454 :: .aload 0 :: .iconst 0 :: .putfield 455 :: .aload 0 :: .iconst 0 :: .putfield 456 :: .aload 0 :: .iconst 0 :: .putfield 457 :: .aload 0 :: .iconst 0 :: .putfield 458 :: .aload 0 :: .iconst 0 :: .putfield 459 :: .aload 0 :: .iconst 0 :: .putfield 460 :: .aload 0 :: .iconst 0 :: .putfield 461 :: .aload 0 :: .iconst 0 :: .putfield 462 :: .aload 0 :: .iconst (-1) :: .putfield 463 :: .return_ :: []
theorem fl_52_0 : m_fl (s_52.drop 0) = k_52_0 := rfl
theorem tn_52_0 {L : Nat} {xs : Nat → Int32} : m_tg (p_P L xs) 52 0 = k_52_0 := (show m_tgl s_52 0 = m_fl (s_52.drop 0) from rfl).trans fl_52_0
noncomputable def k_53_0 : List Instr := .aload 0 :: .aload 1 :: .getfield 449 :: .putfield 449 :: .aload 0 :: .aload 1 :: .getfield 450 :: .putfield 450 :: .aload 0 :: .aload 1 :: .getfield 451 :: .putfield 451 :: .aload 0 :: .aload 1 :: .getfield 452 :: .putfield 452 :: .aload 0 :: .aload 1 :: .getfield 453 :: .putfield 453 :: .aload 0 :: .aload 1 :: .getfield 454 :: .putfield 454 :: .aload 0 :: .aload 1 :: .getfield 455 :: .putfield 455 :: .aload 0 :: .aload 1 :: .getfield 456 :: .putfield 456 :: .aload 0 :: .aload 1 :: .getfield 457 :: .putfield 457 :: .aload 0 :: .aload 1 :: .getfield 458 :: .putfield 458 :: .aload 0 :: .aload 1 :: .getfield 459 :: .putfield 459 :: .aload 0 :: .aload 1 :: .getfield 460 :: .putfield 460 :: .aload 0 :: .aload 1 :: .getfield 461 :: .putfield 461 :: .aload 0 :: .aload 1 :: .getfield 462 :: .putfield 462 :: .aload 0 :: .aload 1 :: .getfield 463 :: .putfield 463 :: .return_ :: []
theorem fl_53_0 : m_fl (s_53.drop 0) = k_53_0 := rfl
theorem tn_53_0 {L : Nat} {xs : Nat → Int32} : m_tg (p_P L xs) 53 0 = k_53_0 := (show m_tgl s_53 0 = m_fl (s_53.drop 0) from rfl).trans fl_53_0
noncomputable def k_54_21 : List Instr := .ret 0 :: []
theorem fl_54_3 : m_fl (s_54.drop 3) = k_54_21 := rfl
noncomputable def k_54_20 : List Instr := .iconst 0 :: k_54_21
theorem fl_54_2 : m_fl (s_54.drop 2) = k_54_20 := (show m_fl (s_54.drop 2) = [.iconst 0] ++ m_fl (s_54.drop 3) from rfl).trans (by rw [fl_54_3]; rfl)
noncomputable def k_54_16 : List Instr := .iconst 1 :: .goto 21 :: k_54_20
theorem fl_54_1 : m_fl (s_54.drop 1) = k_54_16 := (show m_fl (s_54.drop 1) = [.iconst 1, .goto 21] ++ m_fl (s_54.drop 2) from rfl).trans (by rw [fl_54_2]; rfl)
noncomputable def k_54_0 : List Instr := .aload 0 :: .getfield 455 :: .iconst 2 :: .if_icmp .eq 16 :: .aload 0 :: .getfield 455 :: .iconst 3 :: .if_icmp .ne 20 :: k_54_16
theorem fl_54_0 : m_fl (s_54.drop 0) = k_54_0 := (show m_fl (s_54.drop 0) = [.aload 0, .getfield 455, .iconst 2, .if_icmp .eq 16, .aload 0, .getfield 455, .iconst 3, .if_icmp .ne 20] ++ m_fl (s_54.drop 1) from rfl).trans (by rw [fl_54_1]; rfl)
theorem tn_54_0 {L : Nat} {xs : Nat → Int32} : m_tg (p_P L xs) 54 0 = k_54_0 := (show m_tgl s_54 0 = m_fl (s_54.drop 0) from rfl).trans fl_54_0
theorem tg_54_16 {L : Nat} {xs : Nat → Int32} : m_tg (p_P L xs) 54 16 = k_54_16 := (show m_tgl s_54 16 = m_fl (s_54.drop 1) from rfl).trans fl_54_1
theorem tg_54_20 {L : Nat} {xs : Nat → Int32} : m_tg (p_P L xs) 54 20 = k_54_20 := (show m_tgl s_54 20 = m_fl (s_54.drop 2) from rfl).trans fl_54_2
theorem tg_54_21 {L : Nat} {xs : Nat → Int32} : m_tg (p_P L xs) 54 21 = k_54_21 := (show m_tgl s_54 21 = m_fl (s_54.drop 3) from rfl).trans fl_54_3
noncomputable def k_55_21 : List Instr := .ireturn :: []
theorem fl_55_2 : m_fl (s_55.drop 2) = k_55_21 := rfl
noncomputable def k_55_12 : List Instr := .aload 0 :: .getfield 454 :: .aload 0 :: .getfield 453 :: .iadd :: k_55_21
theorem fl_55_1 : m_fl (s_55.drop 1) = k_55_12 := (show m_fl (s_55.drop 1) = [.aload 0, .getfield 454, .aload 0, .getfield 453, .iadd] ++ m_fl (s_55.drop 2) from rfl).trans (by rw [fl_55_2]; rfl)
noncomputable def k_55_0 : List Instr := .aload 0 :: .getfield 453 :: .ifCond .ne 12 :: .iconst (2147483647) :: .goto 21 :: k_55_12
theorem fl_55_0 : m_fl (s_55.drop 0) = k_55_0 := (show m_fl (s_55.drop 0) = [.aload 0, .getfield 453, .ifCond .ne 12, .iconst (2147483647), .goto 21] ++ m_fl (s_55.drop 1) from rfl).trans (by rw [fl_55_1]; rfl)
theorem tn_55_0 {L : Nat} {xs : Nat → Int32} : m_tg (p_P L xs) 55 0 = k_55_0 := (show m_tgl s_55 0 = m_fl (s_55.drop 0) from rfl).trans fl_55_0
theorem tg_55_12 {L : Nat} {xs : Nat → Int32} : m_tg (p_P L xs) 55 12 = k_55_12 := (show m_tgl s_55 12 = m_fl (s_55.drop 1) from rfl).trans fl_55_1
theorem tg_55_21 {L : Nat} {xs : Nat → Int32} : m_tg (p_P L xs) 55 21 = k_55_21 := (show m_tgl s_55 21 = m_fl (s_55.drop 2) from rfl).trans fl_55_2
noncomputable def k_56_17 : List Instr := .aload 0 :: .dup :: .getfield 462 :: .iconst 1 :: .isub :: .putfield 462 :: .iconst 1 :: .ret 0 :: []
theorem fl_56_2 : m_fl (s_56.drop 2) = k_56_17 := rfl
noncomputable def k_56_15 : List Instr := .iconst 0 :: .ret 0 :: k_56_17
theorem fl_56_1 : m_fl (s_56.drop 1) = k_56_15 := (show m_fl (s_56.drop 1) = [.iconst 0, .ret 0] ++ m_fl (s_56.drop 2) from rfl).trans (by rw [fl_56_2]; rfl)
noncomputable def k_56_0 : List Instr := .aload 0 :: .getfield 461 :: .iload 1 :: .if_icmp .ne 15 :: .aload 0 :: .getfield 462 :: .ifCond .gt 17 :: k_56_15
theorem fl_56_0 : m_fl (s_56.drop 0) = k_56_0 := (show m_fl (s_56.drop 0) = [.aload 0, .getfield 461, .iload 1, .if_icmp .ne 15, .aload 0, .getfield 462, .ifCond .gt 17] ++ m_fl (s_56.drop 1) from rfl).trans (by rw [fl_56_1]; rfl)
theorem tn_56_0 {L : Nat} {xs : Nat → Int32} : m_tg (p_P L xs) 56 0 = k_56_0 := (show m_tgl s_56 0 = m_fl (s_56.drop 0) from rfl).trans fl_56_0
theorem tg_56_15 {L : Nat} {xs : Nat → Int32} : m_tg (p_P L xs) 56 15 = k_56_15 := (show m_tgl s_56 15 = m_fl (s_56.drop 1) from rfl).trans fl_56_1
theorem tg_56_17 {L : Nat} {xs : Nat → Int32} : m_tg (p_P L xs) 56 17 = k_56_17 := (show m_tgl s_56 17 = m_fl (s_56.drop 2) from rfl).trans fl_56_2
noncomputable def k_57_0 : List Instr := .aload 0 :: .iload 1 :: .putfield 455 :: .aload 0 :: .iconst 0 :: .putfield 460 :: .aload 0 :: .iload 2 :: .putfield 463 :: .return_ :: []
theorem fl_57_0 : m_fl (s_57.drop 0) = k_57_0 := rfl
theorem tn_57_0 {L : Nat} {xs : Nat → Int32} : m_tg (p_P L xs) 57 0 = k_57_0 := (show m_tgl s_57 0 = m_fl (s_57.drop 0) from rfl).trans fl_57_0
noncomputable def k_58_151 : List Instr := .invokedynamic 0 :: []
theorem fl_58_16 : m_fl (s_58.drop 16) = k_58_151 := rfl
noncomputable def k_58_146 : List Instr := .aload 0 :: .getfield 463 :: .ireturn :: k_58_151
theorem fl_58_15 : m_fl (s_58.drop 15) = k_58_146 := (show m_fl (s_58.drop 15) = [.aload 0, .getfield 463, .ireturn] ++ m_fl (s_58.drop 16) from rfl).trans (by rw [fl_58_16]; rfl)
noncomputable def k_58_141 : List Instr := .aload 0 :: .getfield 462 :: .ireturn :: k_58_146
theorem fl_58_14 : m_fl (s_58.drop 14) = k_58_141 := (show m_fl (s_58.drop 14) = [.aload 0, .getfield 462, .ireturn] ++ m_fl (s_58.drop 15) from rfl).trans (by rw [fl_58_15]; rfl)
noncomputable def k_58_136 : List Instr := .aload 0 :: .getfield 461 :: .ireturn :: k_58_141
theorem fl_58_13 : m_fl (s_58.drop 13) = k_58_136 := (show m_fl (s_58.drop 13) = [.aload 0, .getfield 461, .ireturn] ++ m_fl (s_58.drop 14) from rfl).trans (by rw [fl_58_14]; rfl)
noncomputable def k_58_131 : List Instr := .aload 0 :: .getfield 460 :: .ireturn :: k_58_136
theorem fl_58_12 : m_fl (s_58.drop 12) = k_58_131 := (show m_fl (s_58.drop 12) = [.aload 0, .getfield 460, .ireturn] ++ m_fl (s_58.drop 13) from rfl).trans (by rw [fl_58_13]; rfl)
noncomputable def k_58_126 : List Instr := .aload 0 :: .getfield 459 :: .ireturn :: k_58_131
theorem fl_58_11 : m_fl (s_58.drop 11) = k_58_126 := (show m_fl (s_58.drop 11) = [.aload 0, .getfield 459, .ireturn] ++ m_fl (s_58.drop 12) from rfl).trans (by rw [fl_58_12]; rfl)
noncomputable def k_58_121 : List Instr := .aload 0 :: .getfield 458 :: .ireturn :: k_58_126
theorem fl_58_10 : m_fl (s_58.drop 10) = k_58_121 := (show m_fl (s_58.drop 10) = [.aload 0, .getfield 458, .ireturn] ++ m_fl (s_58.drop 11) from rfl).trans (by rw [fl_58_11]; rfl)
noncomputable def k_58_116 : List Instr := .aload 0 :: .getfield 457 :: .ireturn :: k_58_121
theorem fl_58_9 : m_fl (s_58.drop 9) = k_58_116 := (show m_fl (s_58.drop 9) = [.aload 0, .getfield 457, .ireturn] ++ m_fl (s_58.drop 10) from rfl).trans (by rw [fl_58_10]; rfl)
noncomputable def k_58_111 : List Instr := .aload 0 :: .getfield 456 :: .ireturn :: k_58_116
theorem fl_58_8 : m_fl (s_58.drop 8) = k_58_111 := (show m_fl (s_58.drop 8) = [.aload 0, .getfield 456, .ireturn] ++ m_fl (s_58.drop 9) from rfl).trans (by rw [fl_58_9]; rfl)
noncomputable def k_58_106 : List Instr := .aload 0 :: .getfield 455 :: .ireturn :: k_58_111
theorem fl_58_7 : m_fl (s_58.drop 7) = k_58_106 := (show m_fl (s_58.drop 7) = [.aload 0, .getfield 455, .ireturn] ++ m_fl (s_58.drop 8) from rfl).trans (by rw [fl_58_8]; rfl)
noncomputable def k_58_101 : List Instr := .aload 0 :: .getfield 454 :: .ireturn :: k_58_106
theorem fl_58_6 : m_fl (s_58.drop 6) = k_58_101 := (show m_fl (s_58.drop 6) = [.aload 0, .getfield 454, .ireturn] ++ m_fl (s_58.drop 7) from rfl).trans (by rw [fl_58_7]; rfl)
noncomputable def k_58_96 : List Instr := .aload 0 :: .getfield 453 :: .ireturn :: k_58_101
theorem fl_58_5 : m_fl (s_58.drop 5) = k_58_96 := (show m_fl (s_58.drop 5) = [.aload 0, .getfield 453, .ireturn] ++ m_fl (s_58.drop 6) from rfl).trans (by rw [fl_58_6]; rfl)
noncomputable def k_58_91 : List Instr := .aload 0 :: .getfield 452 :: .ireturn :: k_58_96
theorem fl_58_4 : m_fl (s_58.drop 4) = k_58_91 := (show m_fl (s_58.drop 4) = [.aload 0, .getfield 452, .ireturn] ++ m_fl (s_58.drop 5) from rfl).trans (by rw [fl_58_5]; rfl)
noncomputable def k_58_86 : List Instr := .aload 0 :: .getfield 451 :: .ireturn :: k_58_91
theorem fl_58_3 : m_fl (s_58.drop 3) = k_58_86 := (show m_fl (s_58.drop 3) = [.aload 0, .getfield 451, .ireturn] ++ m_fl (s_58.drop 4) from rfl).trans (by rw [fl_58_4]; rfl)
noncomputable def k_58_81 : List Instr := .aload 0 :: .getfield 450 :: .ireturn :: k_58_86
theorem fl_58_2 : m_fl (s_58.drop 2) = k_58_81 := (show m_fl (s_58.drop 2) = [.aload 0, .getfield 450, .ireturn] ++ m_fl (s_58.drop 3) from rfl).trans (by rw [fl_58_3]; rfl)
noncomputable def k_58_76 : List Instr := .aload 0 :: .getfield 449 :: .ireturn :: k_58_81
theorem fl_58_1 : m_fl (s_58.drop 1) = k_58_76 := (show m_fl (s_58.drop 1) = [.aload 0, .getfield 449, .ireturn] ++ m_fl (s_58.drop 2) from rfl).trans (by rw [fl_58_2]; rfl)
noncomputable def k_58_0 : List Instr := .iload 1 :: .tableswitch 151 0 14 #[76, 81, 86, 91, 96, 101, 106, 111, 116, 121, 126, 131, 136, 141, 146] :: k_58_76
theorem fl_58_0 : m_fl (s_58.drop 0) = k_58_0 := (show m_fl (s_58.drop 0) = [.iload 1, .tableswitch 151 0 14 #[76, 81, 86, 91, 96, 101, 106, 111, 116, 121, 126, 131, 136, 141, 146]] ++ m_fl (s_58.drop 1) from rfl).trans (by rw [fl_58_1]; rfl)
theorem tn_58_0 {L : Nat} {xs : Nat → Int32} : m_tg (p_P L xs) 58 0 = k_58_0 := (show m_tgl s_58 0 = m_fl (s_58.drop 0) from rfl).trans fl_58_0
theorem tg_58_76 {L : Nat} {xs : Nat → Int32} : m_tg (p_P L xs) 58 76 = k_58_76 := (show m_tgl s_58 76 = m_fl (s_58.drop 1) from rfl).trans fl_58_1
theorem tg_58_81 {L : Nat} {xs : Nat → Int32} : m_tg (p_P L xs) 58 81 = k_58_81 := (show m_tgl s_58 81 = m_fl (s_58.drop 2) from rfl).trans fl_58_2
theorem tg_58_86 {L : Nat} {xs : Nat → Int32} : m_tg (p_P L xs) 58 86 = k_58_86 := (show m_tgl s_58 86 = m_fl (s_58.drop 3) from rfl).trans fl_58_3
theorem tg_58_91 {L : Nat} {xs : Nat → Int32} : m_tg (p_P L xs) 58 91 = k_58_91 := (show m_tgl s_58 91 = m_fl (s_58.drop 4) from rfl).trans fl_58_4
theorem tg_58_96 {L : Nat} {xs : Nat → Int32} : m_tg (p_P L xs) 58 96 = k_58_96 := (show m_tgl s_58 96 = m_fl (s_58.drop 5) from rfl).trans fl_58_5
theorem tg_58_101 {L : Nat} {xs : Nat → Int32} : m_tg (p_P L xs) 58 101 = k_58_101 := (show m_tgl s_58 101 = m_fl (s_58.drop 6) from rfl).trans fl_58_6
theorem tg_58_106 {L : Nat} {xs : Nat → Int32} : m_tg (p_P L xs) 58 106 = k_58_106 := (show m_tgl s_58 106 = m_fl (s_58.drop 7) from rfl).trans fl_58_7
theorem tg_58_111 {L : Nat} {xs : Nat → Int32} : m_tg (p_P L xs) 58 111 = k_58_111 := (show m_tgl s_58 111 = m_fl (s_58.drop 8) from rfl).trans fl_58_8
theorem tg_58_116 {L : Nat} {xs : Nat → Int32} : m_tg (p_P L xs) 58 116 = k_58_116 := (show m_tgl s_58 116 = m_fl (s_58.drop 9) from rfl).trans fl_58_9
theorem tg_58_121 {L : Nat} {xs : Nat → Int32} : m_tg (p_P L xs) 58 121 = k_58_121 := (show m_tgl s_58 121 = m_fl (s_58.drop 10) from rfl).trans fl_58_10
theorem tg_58_126 {L : Nat} {xs : Nat → Int32} : m_tg (p_P L xs) 58 126 = k_58_126 := (show m_tgl s_58 126 = m_fl (s_58.drop 11) from rfl).trans fl_58_11
theorem tg_58_131 {L : Nat} {xs : Nat → Int32} : m_tg (p_P L xs) 58 131 = k_58_131 := (show m_tgl s_58 131 = m_fl (s_58.drop 12) from rfl).trans fl_58_12
theorem tg_58_136 {L : Nat} {xs : Nat → Int32} : m_tg (p_P L xs) 58 136 = k_58_136 := (show m_tgl s_58 136 = m_fl (s_58.drop 13) from rfl).trans fl_58_13
theorem tg_58_141 {L : Nat} {xs : Nat → Int32} : m_tg (p_P L xs) 58 141 = k_58_141 := (show m_tgl s_58 141 = m_fl (s_58.drop 14) from rfl).trans fl_58_14
theorem tg_58_146 {L : Nat} {xs : Nat → Int32} : m_tg (p_P L xs) 58 146 = k_58_146 := (show m_tgl s_58 146 = m_fl (s_58.drop 15) from rfl).trans fl_58_15
theorem tg_58_151 {L : Nat} {xs : Nat → Int32} : m_tg (p_P L xs) 58 151 = k_58_151 := (show m_tgl s_58 151 = m_fl (s_58.drop 16) from rfl).trans fl_58_16
noncomputable def k_59_112 : List Instr := .iconst 0 :: .ireturn :: []
theorem fl_59_12 : m_fl (s_59.drop 12) = k_59_112 := rfl
noncomputable def k_59_107 : List Instr := .aload 0 :: .getfield 459 :: .ireturn :: k_59_112
theorem fl_59_11 : m_fl (s_59.drop 11) = k_59_107 := (show m_fl (s_59.drop 11) = [.aload 0, .getfield 459, .ireturn] ++ m_fl (s_59.drop 12) from rfl).trans (by rw [fl_59_12]; rfl)
noncomputable def k_59_102 : List Instr := .aload 0 :: .getfield 458 :: .ireturn :: k_59_107
theorem fl_59_10 : m_fl (s_59.drop 10) = k_59_102 := (show m_fl (s_59.drop 10) = [.aload 0, .getfield 458, .ireturn] ++ m_fl (s_59.drop 11) from rfl).trans (by rw [fl_59_11]; rfl)
noncomputable def k_59_97 : List Instr := .aload 0 :: .getfield 457 :: .ireturn :: k_59_102
theorem fl_59_9 : m_fl (s_59.drop 9) = k_59_97 := (show m_fl (s_59.drop 9) = [.aload 0, .getfield 457, .ireturn] ++ m_fl (s_59.drop 10) from rfl).trans (by rw [fl_59_10]; rfl)
noncomputable def k_59_92 : List Instr := .aload 0 :: .getfield 456 :: .ireturn :: k_59_97
theorem fl_59_8 : m_fl (s_59.drop 8) = k_59_92 := (show m_fl (s_59.drop 8) = [.aload 0, .getfield 456, .ireturn] ++ m_fl (s_59.drop 9) from rfl).trans (by rw [fl_59_9]; rfl)
noncomputable def k_59_87 : List Instr := .aload 0 :: .getfield 455 :: .ireturn :: k_59_92
theorem fl_59_7 : m_fl (s_59.drop 7) = k_59_87 := (show m_fl (s_59.drop 7) = [.aload 0, .getfield 455, .ireturn] ++ m_fl (s_59.drop 8) from rfl).trans (by rw [fl_59_8]; rfl)
noncomputable def k_59_82 : List Instr := .aload 0 :: .getfield 452 :: .ireturn :: k_59_87
theorem fl_59_6 : m_fl (s_59.drop 6) = k_59_82 := (show m_fl (s_59.drop 6) = [.aload 0, .getfield 452, .ireturn] ++ m_fl (s_59.drop 7) from rfl).trans (by rw [fl_59_7]; rfl)
noncomputable def k_59_77 : List Instr := .aload 0 :: .getfield 451 :: .ireturn :: k_59_82
theorem fl_59_5 : m_fl (s_59.drop 5) = k_59_77 := (show m_fl (s_59.drop 5) = [.aload 0, .getfield 451, .ireturn] ++ m_fl (s_59.drop 6) from rfl).trans (by rw [fl_59_6]; rfl)
noncomputable def k_59_75 : List Instr := .iload 2 :: .ireturn :: k_59_77
theorem fl_59_4 : m_fl (s_59.drop 4) = k_59_75 := (show m_fl (s_59.drop 4) = [.iload 2, .ireturn] ++ m_fl (s_59.drop 5) from rfl).trans (by rw [fl_59_5]; rfl)
noncomputable def k_59_70 : List Instr := .aload 0 :: .getfield 450 :: .ireturn :: k_59_75
theorem fl_59_3 : m_fl (s_59.drop 3) = k_59_70 := (show m_fl (s_59.drop 3) = [.aload 0, .getfield 450, .ireturn] ++ m_fl (s_59.drop 4) from rfl).trans (by rw [fl_59_4]; rfl)
noncomputable def k_59_65 : List Instr := .aload 0 :: .getfield 449 :: .ireturn :: k_59_70
theorem fl_59_2 : m_fl (s_59.drop 2) = k_59_65 := (show m_fl (s_59.drop 2) = [.aload 0, .getfield 449, .ireturn] ++ m_fl (s_59.drop 3) from rfl).trans (by rw [fl_59_3]; rfl)
noncomputable def k_59_60 : List Instr := .aload 0 :: .getfield 448 :: .ireturn :: k_59_65
theorem fl_59_1 : m_fl (s_59.drop 1) = k_59_60 := (show m_fl (s_59.drop 1) = [.aload 0, .getfield 448, .ireturn] ++ m_fl (s_59.drop 2) from rfl).trans (by rw [fl_59_2]; rfl)
noncomputable def k_59_0 : List Instr := .iload 1 :: .tableswitch 112 0 10 #[60, 65, 70, 75, 77, 82, 87, 92, 97, 102, 107] :: k_59_60
theorem fl_59_0 : m_fl (s_59.drop 0) = k_59_0 := (show m_fl (s_59.drop 0) = [.iload 1, .tableswitch 112 0 10 #[60, 65, 70, 75, 77, 82, 87, 92, 97, 102, 107]] ++ m_fl (s_59.drop 1) from rfl).trans (by rw [fl_59_1]; rfl)
theorem tn_59_0 {L : Nat} {xs : Nat → Int32} : m_tg (p_P L xs) 59 0 = k_59_0 := (show m_tgl s_59 0 = m_fl (s_59.drop 0) from rfl).trans fl_59_0
theorem tg_59_60 {L : Nat} {xs : Nat → Int32} : m_tg (p_P L xs) 59 60 = k_59_60 := (show m_tgl s_59 60 = m_fl (s_59.drop 1) from rfl).trans fl_59_1
theorem tg_59_65 {L : Nat} {xs : Nat → Int32} : m_tg (p_P L xs) 59 65 = k_59_65 := (show m_tgl s_59 65 = m_fl (s_59.drop 2) from rfl).trans fl_59_2
theorem tg_59_70 {L : Nat} {xs : Nat → Int32} : m_tg (p_P L xs) 59 70 = k_59_70 := (show m_tgl s_59 70 = m_fl (s_59.drop 3) from rfl).trans fl_59_3
theorem tg_59_75 {L : Nat} {xs : Nat → Int32} : m_tg (p_P L xs) 59 75 = k_59_75 := (show m_tgl s_59 75 = m_fl (s_59.drop 4) from rfl).trans fl_59_4
theorem tg_59_77 {L : Nat} {xs : Nat → Int32} : m_tg (p_P L xs) 59 77 = k_59_77 := (show m_tgl s_59 77 = m_fl (s_59.drop 5) from rfl).trans fl_59_5
theorem tg_59_82 {L : Nat} {xs : Nat → Int32} : m_tg (p_P L xs) 59 82 = k_59_82 := (show m_tgl s_59 82 = m_fl (s_59.drop 6) from rfl).trans fl_59_6
theorem tg_59_87 {L : Nat} {xs : Nat → Int32} : m_tg (p_P L xs) 59 87 = k_59_87 := (show m_tgl s_59 87 = m_fl (s_59.drop 7) from rfl).trans fl_59_7
theorem tg_59_92 {L : Nat} {xs : Nat → Int32} : m_tg (p_P L xs) 59 92 = k_59_92 := (show m_tgl s_59 92 = m_fl (s_59.drop 8) from rfl).trans fl_59_8
theorem tg_59_97 {L : Nat} {xs : Nat → Int32} : m_tg (p_P L xs) 59 97 = k_59_97 := (show m_tgl s_59 97 = m_fl (s_59.drop 9) from rfl).trans fl_59_9
theorem tg_59_102 {L : Nat} {xs : Nat → Int32} : m_tg (p_P L xs) 59 102 = k_59_102 := (show m_tgl s_59 102 = m_fl (s_59.drop 10) from rfl).trans fl_59_10
theorem tg_59_107 {L : Nat} {xs : Nat → Int32} : m_tg (p_P L xs) 59 107 = k_59_107 := (show m_tgl s_59 107 = m_fl (s_59.drop 11) from rfl).trans fl_59_11
theorem tg_59_112 {L : Nat} {xs : Nat → Int32} : m_tg (p_P L xs) 59 112 = k_59_112 := (show m_tgl s_59 112 = m_fl (s_59.drop 12) from rfl).trans fl_59_12
noncomputable def k_60_0 : List Instr := .aload 0 :: .invokespecial 9000 :: .aload 0 :: .iconst 0 :: .putfield 519 :: .aload 0 :: .iconst 0 :: .putfield 520 :: .aload 0 :: .iconst 0 :: .putfield 521 :: .aload 0 :: .iconst (-1) :: .putfield 522 :: .aload 0 :: .aload 1 :: .putfield 512 :: .aload 0 :: .iconst 0 :: .iload 2 :: .aload 1 :: .ldc_w 101 :: .invokestatic 9001 :: .invokestatic 9002 :: .putfield 513 :: .aload 0 :: .aload 0 :: .getfield 513 :: .newarray .int :: .putfield 514 :: .aload 0 :: .aload 0 :: .getfield 513 :: .newarray .int :: .putfield 515 :: .aload 0 :: .aload 0 :: .getfield 513 :: .newarray .int :: .putfield 516 :: .aload 0 :: .aload 0 :: .getfield 513 :: .newarray .int :: .putfield 517 :: .aload 0 :: .aload 0 :: .getfield 513 :: .anewarray 9 :: .putfield 518 :: .return_ :: []
theorem fl_60_0 : m_fl (s_60.drop 0) = k_60_0 := rfl
theorem tn_60_0 {L : Nat} {xs : Nat → Int32} : m_tg (p_P L xs) 60 0 = k_60_0 := (show m_tgl s_60 0 = m_fl (s_60.drop 0) from rfl).trans fl_60_0
noncomputable def k_61_57 : List Instr := .return_ :: []
theorem fl_61_3 : m_fl (s_61.drop 3) = k_61_57 := rfl
noncomputable def k_61_51 : List Instr := .iinc 2 1 :: .goto 4 :: k_61_57
theorem fl_61_2 : m_fl (s_61.drop 2) = k_61_51 := (show m_fl (s_61.drop 2) = [.iinc 2 1, .goto 4] ++ m_fl (s_61.drop 3) from rfl).trans (by rw [fl_61_3]; rfl)
noncomputable def k_61_4 : List Instr := .iload 2 :: .aload 0 :: .getfield 513 :: .if_icmp .ge 57 :: .iload 2 :: .iload 1 :: .if_icmp .lt 51 :: .aload 0 :: .getfield 512 :: .iload 2 :: .baload :: .iconst 32 :: .if_icmp .eq 51 :: .aload 0 :: .getfield 512 :: .iload 2 :: .baload :: .iconst 10 :: .if_icmp .eq 51 :: .aload 0 :: .iload 2 :: .invokevirtual 62 :: .istore 1 :: .aload 0 :: .iload 2 :: .iload 1 :: .invokevirtual 63 :: k_61_51
theorem fl_61_1 : m_fl (s_61.drop 1) = k_61_4 := (show m_fl (s_61.drop 1) = [.iload 2, .aload 0, .getfield 513, .if_icmp .ge 57, .iload 2, .iload 1, .if_icmp .lt 51, .aload 0, .getfield 512, .iload 2, .baload, .iconst 32, .if_icmp .eq 51, .aload 0, .getfield 512, .iload 2, .baload, .iconst 10, .if_icmp .eq 51, .aload 0, .iload 2, .invokevirtual 62, .istore 1, .aload 0, .iload 2, .iload 1, .invokevirtual 63] ++ m_fl (s_61.drop 2) from rfl).trans (by rw [fl_61_2]; rfl)
noncomputable def k_61_0 : List Instr := .iconst 0 :: .istore 1 :: .iconst 0 :: .istore 2 :: k_61_4
theorem fl_61_0 : m_fl (s_61.drop 0) = k_61_0 := (show m_fl (s_61.drop 0) = [.iconst 0, .istore 1, .iconst 0, .istore 2] ++ m_fl (s_61.drop 1) from rfl).trans (by rw [fl_61_1]; rfl)
theorem tn_61_0 {L : Nat} {xs : Nat → Int32} : m_tg (p_P L xs) 61 0 = k_61_0 := (show m_tgl s_61 0 = m_fl (s_61.drop 0) from rfl).trans fl_61_0
theorem tg_61_4 {L : Nat} {xs : Nat → Int32} : m_tg (p_P L xs) 61 4 = k_61_4 := (show m_tgl s_61 4 = m_fl (s_61.drop 1) from rfl).trans fl_61_1
theorem tg_61_51 {L : Nat} {xs : Nat → Int32} : m_tg (p_P L xs) 61 51 = k_61_51 := (show m_tgl s_61 51 = m_fl (s_61.drop 2) from rfl).trans fl_61_2
theorem tg_61_57 {L : Nat} {xs : Nat → Int32} : m_tg (p_P L xs) 61 57 = k_61_57 := (show m_tgl s_61 57 = m_fl (s_61.drop 3) from rfl).trans fl_61_3
noncomputable def k_62_80 : List Instr := .iload 2 :: .ireturn :: []
theorem fl_62_4 : m_fl (s_62.drop 4) = k_62_80 := rfl
noncomputable def k_62_54 : List Instr := .iload 2 :: .aload 0 :: .getfield 513 :: .if_icmp .ge 80 :: .aload 0 :: .getfield 512 :: .iload 2 :: .baload :: .invokestatic 66 :: .ifCond .eq 80 :: .iinc 2 1 :: .goto 54 :: k_62_80
theorem fl_62_3 : m_fl (s_62.drop 3) = k_62_54 := (show m_fl (s_62.drop 3) = [.iload 2, .aload 0, .getfield 513, .if_icmp .ge 80, .aload 0, .getfield 512, .iload 2, .baload, .invokestatic 66, .ifCond .eq 80, .iinc 2 1, .goto 54] ++ m_fl (s_62.drop 4) from rfl).trans (by rw [fl_62_4]; rfl)
noncomputable def k_62_42 : List Instr := .aload 0 :: .getfield 512 :: .iload 1 :: .baload :: .invokestatic 66 :: .ifCond .eq 80 :: k_62_54
theorem fl_62_2 : m_fl (s_62.drop 2) = k_62_42 := (show m_fl (s_62.drop 2) = [.aload 0, .getfield 512, .iload 1, .baload, .invokestatic 66, .ifCond .eq 80] ++ m_fl (s_62.drop 3) from rfl).trans (by rw [fl_62_3]; rfl)
noncomputable def k_62_16 : List Instr := .iload 2 :: .aload 0 :: .getfield 513 :: .if_icmp .ge 80 :: .aload 0 :: .getfield 512 :: .iload 2 :: .baload :: .invokestatic 65 :: .ifCond .eq 80 :: .iinc 2 1 :: .goto 16 :: k_62_42
theorem fl_62_1 : m_fl (s_62.drop 1) = k_62_16 := (show m_fl (s_62.drop 1) = [.iload 2, .aload 0, .getfield 513, .if_icmp .ge 80, .aload 0, .getfield 512, .iload 2, .baload, .invokestatic 65, .ifCond .eq 80, .iinc 2 1, .goto 16] ++ m_fl (s_62.drop 2) from rfl).trans (by rw [fl_62_2]; rfl)
noncomputable def k_62_0 : List Instr := .iload 1 :: .iconst 1 :: .iadd :: .istore 2 :: .aload 0 :: .getfield 512 :: .iload 1 :: .baload :: .invokestatic 65 :: .ifCond .eq 42 :: k_62_16
theorem fl_62_0 : m_fl (s_62.drop 0) = k_62_0 := (show m_fl (s_62.drop 0) = [.iload 1, .iconst 1, .iadd, .istore 2, .aload 0, .getfield 512, .iload 1, .baload, .invokestatic 65, .ifCond .eq 42] ++ m_fl (s_62.drop 1) from rfl).trans (by rw [fl_62_1]; rfl)
theorem tn_62_0 {L : Nat} {xs : Nat → Int32} : m_tg (p_P L xs) 62 0 = k_62_0 := (show m_tgl s_62 0 = m_fl (s_62.drop 0) from rfl).trans fl_62_0
theorem tg_62_16 {L : Nat} {xs : Nat → Int32} : m_tg (p_P L xs) 62 16 = k_62_16 := (show m_tgl s_62 16 = m_fl (s_62.drop 1) from rfl).trans fl_62_1
theorem tg_62_42 {L : Nat} {xs : Nat → Int32} : m_tg (p_P L xs) 62 42 = k_62_42 := (show m_tgl s_62 42 = m_fl (s_62.drop 2) from rfl).trans fl_62_2
theorem tg_62_54 {L : Nat} {xs : Nat → Int32} : m_tg (p_P L xs) 62 54 = k_62_54 := (show m_tgl s_62 54 = m_fl (s_62.drop 3) from rfl).trans fl_62_3
theorem tg_62_80 {L : Nat} {xs : Nat → Int32} : m_tg (p_P L xs) 62 80 = k_62_80 := (show m_tgl s_62 80 = m_fl (s_62.drop 4) from rfl).trans fl_62_4
noncomputable def k_63_140 : List Instr := .aload 0 :: .dup :: .getfield 519 :: .iconst 1 :: .iadd :: .putfield 519 :: .return_ :: []
theorem fl_63_4 : m_fl (s_63.drop 4) = k_63_140 := rfl
noncomputable def k_63_115 : List Instr := .aload 0 :: .getfield 514 :: .aload 0 :: .getfield 519 :: .iconst 2 :: .iastore :: .aload 0 :: .getfield 517 :: .aload 0 :: .getfield 519 :: .aload 0 :: .getfield 512 :: .iload 1 :: .baload :: .iastore :: k_63_140
theorem fl_63_3 : m_fl (s_63.drop 3) = k_63_115 := (show m_fl (s_63.drop 3) = [.aload 0, .getfield 514, .aload 0, .getfield 519, .iconst 2, .iastore, .aload 0, .getfield 517, .aload 0, .getfield 519, .aload 0, .getfield 512, .iload 1, .baload, .iastore] ++ m_fl (s_63.drop 4) from rfl).trans (by rw [fl_63_4]; rfl)
noncomputable def k_63_75 : List Instr := .aload 0 :: .getfield 512 :: .iload 1 :: .baload :: .invokestatic 66 :: .ifCond .eq 115 :: .aload 0 :: .getfield 514 :: .aload 0 :: .getfield 519 :: .iconst 1 :: .iastore :: .aload 0 :: .getfield 517 :: .aload 0 :: .getfield 519 :: .aload 0 :: .iload 1 :: .iload 2 :: .invokevirtual 64 :: .iastore :: .goto 140 :: k_63_115
theorem fl_63_2 : m_fl (s_63.drop 2) = k_63_75 := (show m_fl (s_63.drop 2) = [.aload 0, .getfield 512, .iload 1, .baload, .invokestatic 66, .ifCond .eq 115, .aload 0, .getfield 514, .aload 0, .getfield 519, .iconst 1, .iastore, .aload 0, .getfield 517, .aload 0, .getfield 519, .aload 0, .iload 1, .iload 2, .invokevirtual 64, .iastore, .goto 140] ++ m_fl (s_63.drop 3) from rfl).trans (by rw [fl_63_3]; rfl)
noncomputable def k_63_12 : List Instr := .aload 0 :: .getfield 515 :: .aload 0 :: .getfield 519 :: .iload 1 :: .iastore :: .aload 0 :: .getfield 516 :: .aload 0 :: .getfield 519 :: .iload 2 :: .iastore :: .aload 0 :: .getfield 512 :: .iload 1 :: .baload :: .invokestatic 65 :: .ifCond .eq 75 :: .aload 0 :: .getfield 514 :: .aload 0 :: .getfield 519 :: .iconst 0 :: .iastore :: .aload 0 :: .getfield 518 :: .aload 0 :: .getfield 519 :: .aload 0 :: .getfield 512 :: .iload 1 :: .iload 2 :: .invokestatic 9004 :: .aastore :: .goto 140 :: k_63_75
theorem fl_63_1 : m_fl (s_63.drop 1) = k_63_12 := (show m_fl (s_63.drop 1) = [.aload 0, .getfield 515, .aload 0, .getfield 519, .iload 1, .iastore, .aload 0, .getfield 516, .aload 0, .getfield 519, .iload 2, .iastore, .aload 0, .getfield 512, .iload 1, .baload, .invokestatic 65, .ifCond .eq 75, .aload 0, .getfield 514, .aload 0, .getfield 519, .iconst 0, .iastore, .aload 0, .getfield 518, .aload 0, .getfield 519, .aload 0, .getfield 512, .iload 1, .iload 2, .invokestatic 9004, .aastore, .goto 140] ++ m_fl (s_63.drop 2) from rfl).trans (by rw [fl_63_2]; rfl)
noncomputable def k_63_0 : List Instr := .aload 0 :: .getfield 519 :: .aload 0 :: .getfield 513 :: .if_icmp .lt 12 :: .return_ :: k_63_12
theorem fl_63_0 : m_fl (s_63.drop 0) = k_63_0 := (show m_fl (s_63.drop 0) = [.aload 0, .getfield 519, .aload 0, .getfield 513, .if_icmp .lt 12, .return_] ++ m_fl (s_63.drop 1) from rfl).trans (by rw [fl_63_1]; rfl)
theorem tn_63_0 {L : Nat} {xs : Nat → Int32} : m_tg (p_P L xs) 63 0 = k_63_0 := (show m_tgl s_63 0 = m_fl (s_63.drop 0) from rfl).trans fl_63_0
theorem tg_63_12 {L : Nat} {xs : Nat → Int32} : m_tg (p_P L xs) 63 12 = k_63_12 := (show m_tgl s_63 12 = m_fl (s_63.drop 1) from rfl).trans fl_63_1
theorem tg_63_75 {L : Nat} {xs : Nat → Int32} : m_tg (p_P L xs) 63 75 = k_63_75 := (show m_tgl s_63 75 = m_fl (s_63.drop 2) from rfl).trans fl_63_2
theorem tg_63_115 {L : Nat} {xs : Nat → Int32} : m_tg (p_P L xs) 63 115 = k_63_115 := (show m_tgl s_63 115 = m_fl (s_63.drop 3) from rfl).trans fl_63_3
theorem tg_63_140 {L : Nat} {xs : Nat → Int32} : m_tg (p_P L xs) 63 140 = k_63_140 := (show m_tgl s_63 140 = m_fl (s_63.drop 4) from rfl).trans fl_63_4
noncomputable def k_64_47 : List Instr := .iload 3 :: .ireturn :: []
theorem fl_64_2 : m_fl (s_64.drop 2) = k_64_47 := rfl
noncomputable def k_64_5 : List Instr := .iload 4 :: .iload 2 :: .if_icmp .ge 47 :: .iload 4 :: .aload 0 :: .getfield 513 :: .if_icmp .ge 47 :: .iload 3 :: .iconst 10 :: .imul :: .aload 0 :: .getfield 512 :: .iload 4 :: .baload :: .iadd :: .iconst 48 :: .isub :: .iconst (1000000) :: .invokestatic 9001 :: .istore 3 :: .iinc 4 1 :: .goto 5 :: k_64_47
theorem fl_64_1 : m_fl (s_64.drop 1) = k_64_5 := (show m_fl (s_64.drop 1) = [.iload 4, .iload 2, .if_icmp .ge 47, .iload 4, .aload 0, .getfield 513, .if_icmp .ge 47, .iload 3, .iconst 10, .imul, .aload 0, .getfield 512, .iload 4, .baload, .iadd, .iconst 48, .isub, .iconst (1000000), .invokestatic 9001, .istore 3, .iinc 4 1, .goto 5] ++ m_fl (s_64.drop 2) from rfl).trans (by rw [fl_64_2]; rfl)
noncomputable def k_64_0 : List Instr := .iconst 0 :: .istore 3 :: .iload 1 :: .istore 4 :: k_64_5
theorem fl_64_0 : m_fl (s_64.drop 0) = k_64_0 := (show m_fl (s_64.drop 0) = [.iconst 0, .istore 3, .iload 1, .istore 4] ++ m_fl (s_64.drop 1) from rfl).trans (by rw [fl_64_1]; rfl)
theorem tn_64_0 {L : Nat} {xs : Nat → Int32} : m_tg (p_P L xs) 64 0 = k_64_0 := (show m_tgl s_64 0 = m_fl (s_64.drop 0) from rfl).trans fl_64_0
theorem tg_64_5 {L : Nat} {xs : Nat → Int32} : m_tg (p_P L xs) 64 5 = k_64_5 := (show m_tgl s_64 5 = m_fl (s_64.drop 1) from rfl).trans fl_64_1
theorem tg_64_47 {L : Nat} {xs : Nat → Int32} : m_tg (p_P L xs) 64 47 = k_64_47 := (show m_tgl s_64 47 = m_fl (s_64.drop 2) from rfl).trans fl_64_2
noncomputable def k_65_17 : List Instr := .ret 0 :: []
theorem fl_65_2 : m_fl (s_65.drop 2) = k_65_17 := rfl
noncomputable def k_65_16 : List Instr := .iconst 0 :: k_65_17
theorem fl_65_1 : m_fl (s_65.drop 1) = k_65_16 := (show m_fl (s_65.drop 1) = [.iconst 0] ++ m_fl (s_65.drop 2) from rfl).trans (by rw [fl_65_2]; rfl)
noncomputable def k_65_0 : List Instr := .iload 0 :: .iconst 97 :: .if_icmp .lt 16 :: .iload 0 :: .iconst 122 :: .if_icmp .gt 16 :: .iconst 1 :: .goto 17 :: k_65_16
theorem fl_65_0 : m_fl (s_65.drop 0) = k_65_0 := (show m_fl (s_65.drop 0) = [.iload 0, .iconst 97, .if_icmp .lt 16, .iload 0, .iconst 122, .if_icmp .gt 16, .iconst 1, .goto 17] ++ m_fl (s_65.drop 1) from rfl).trans (by rw [fl_65_1]; rfl)
theorem tn_65_0 {L : Nat} {xs : Nat → Int32} : m_tg (p_P L xs) 65 0 = k_65_0 := (show m_tgl s_65 0 = m_fl (s_65.drop 0) from rfl).trans fl_65_0
theorem tg_65_16 {L : Nat} {xs : Nat → Int32} : m_tg (p_P L xs) 65 16 = k_65_16 := (show m_tgl s_65 16 = m_fl (s_65.drop 1) from rfl).trans fl_65_1
theorem tg_65_17 {L : Nat} {xs : Nat → Int32} : m_tg (p_P L xs) 65 17 = k_65_17 := (show m_tgl s_65 17 = m_fl (s_65.drop 2) from rfl).trans fl_65_2
noncomputable def k_66_17 : List Instr := .ret 0 :: []
theorem fl_66_2 : m_fl (s_66.drop 2) = k_66_17 := rfl
noncomputable def k_66_16 : List Instr := .iconst 0 :: k_66_17
theorem fl_66_1 : m_fl (s_66.drop 1) = k_66_16 := (show m_fl (s_66.drop 1) = [.iconst 0] ++ m_fl (s_66.drop 2) from rfl).trans (by rw [fl_66_2]; rfl)
noncomputable def k_66_0 : List Instr := .iload 0 :: .iconst 48 :: .if_icmp .lt 16 :: .iload 0 :: .iconst 57 :: .if_icmp .gt 16 :: .iconst 1 :: .goto 17 :: k_66_16
theorem fl_66_0 : m_fl (s_66.drop 0) = k_66_0 := (show m_fl (s_66.drop 0) = [.iload 0, .iconst 48, .if_icmp .lt 16, .iload 0, .iconst 57, .if_icmp .gt 16, .iconst 1, .goto 17] ++ m_fl (s_66.drop 1) from rfl).trans (by rw [fl_66_1]; rfl)
theorem tn_66_0 {L : Nat} {xs : Nat → Int32} : m_tg (p_P L xs) 66 0 = k_66_0 := (show m_tgl s_66 0 = m_fl (s_66.drop 0) from rfl).trans fl_66_0
theorem tg_66_16 {L : Nat} {xs : Nat → Int32} : m_tg (p_P L xs) 66 16 = k_66_16 := (show m_tgl s_66 16 = m_fl (s_66.drop 1) from rfl).trans fl_66_1
theorem tg_66_17 {L : Nat} {xs : Nat → Int32} : m_tg (p_P L xs) 66 17 = k_66_17 := (show m_tgl s_66 17 = m_fl (s_66.drop 2) from rfl).trans fl_66_2
noncomputable def k_67_21 : List Instr := .return_ :: []
theorem fl_67_1 : m_fl (s_67.drop 1) = k_67_21 := rfl
noncomputable def k_67_0 : List Instr := .aload 0 :: .getfield 520 :: .aload 0 :: .getfield 519 :: .if_icmp .ge 21 :: .aload 0 :: .dup :: .getfield 520 :: .iconst 1 :: .iadd :: .putfield 520 :: k_67_21
theorem fl_67_0 : m_fl (s_67.drop 0) = k_67_0 := (show m_fl (s_67.drop 0) = [.aload 0, .getfield 520, .aload 0, .getfield 519, .if_icmp .ge 21, .aload 0, .dup, .getfield 520, .iconst 1, .iadd, .putfield 520] ++ m_fl (s_67.drop 1) from rfl).trans (by rw [fl_67_1]; rfl)
theorem tn_67_0 {L : Nat} {xs : Nat → Int32} : m_tg (p_P L xs) 67 0 = k_67_0 := (show m_tgl s_67 0 = m_fl (s_67.drop 0) from rfl).trans fl_67_0
theorem tg_67_21 {L : Nat} {xs : Nat → Int32} : m_tg (p_P L xs) 67 21 = k_67_21 := (show m_tgl s_67 21 = m_fl (s_67.drop 1) from rfl).trans fl_67_1
noncomputable def k_68_16 : List Instr := .ret 0 :: []
theorem fl_68_2 : m_fl (s_68.drop 2) = k_68_16 := rfl
noncomputable def k_68_15 : List Instr := .iconst 0 :: k_68_16
theorem fl_68_1 : m_fl (s_68.drop 1) = k_68_15 := (show m_fl (s_68.drop 1) = [.iconst 0] ++ m_fl (s_68.drop 2) from rfl).trans (by rw [fl_68_2]; rfl)
noncomputable def k_68_0 : List Instr := .aload 0 :: .getfield 520 :: .aload 0 :: .getfield 519 :: .if_icmp .lt 15 :: .iconst 1 :: .goto 16 :: k_68_15
theorem fl_68_0 : m_fl (s_68.drop 0) = k_68_0 := (show m_fl (s_68.drop 0) = [.aload 0, .getfield 520, .aload 0, .getfield 519, .if_icmp .lt 15, .iconst 1, .goto 16] ++ m_fl (s_68.drop 1) from rfl).trans (by rw [fl_68_1]; rfl)
theorem tn_68_0 {L : Nat} {xs : Nat → Int32} : m_tg (p_P L xs) 68 0 = k_68_0 := (show m_tgl s_68 0 = m_fl (s_68.drop 0) from rfl).trans fl_68_0
theorem tg_68_15 {L : Nat} {xs : Nat → Int32} : m_tg (p_P L xs) 68 15 = k_68_15 := (show m_tgl s_68 15 = m_fl (s_68.drop 1) from rfl).trans fl_68_1
theorem tg_68_16 {L : Nat} {xs : Nat → Int32} : m_tg (p_P L xs) 68 16 = k_68_16 := (show m_tgl s_68 16 = m_fl (s_68.drop 2) from rfl).trans fl_68_2
noncomputable def k_69_24 : List Instr := .areturn :: []
theorem fl_69_2 : m_fl (s_69.drop 2) = k_69_24 := rfl
noncomputable def k_69_23 : List Instr := .aconst_null :: k_69_24
theorem fl_69_1 : m_fl (s_69.drop 1) = k_69_23 := (show m_fl (s_69.drop 1) = [.aconst_null] ++ m_fl (s_69.drop 2) from rfl).trans (by rw [fl_69_2]; rfl)
noncomputable def k_69_0 : List Instr := .aload 0 :: .getfield 520 :: .aload 0 :: .getfield 519 :: .if_icmp .ge 23 :: .aload 0 :: .getfield 518 :: .aload 0 :: .getfield 520 :: .checkcast 9 :: .goto 24 :: k_69_23
theorem fl_69_0 : m_fl (s_69.drop 0) = k_69_0 := (show m_fl (s_69.drop 0) = [.aload 0, .getfield 520, .aload 0, .getfield 519, .if_icmp .ge 23, .aload 0, .getfield 518, .aload 0, .getfield 520, .checkcast 9, .goto 24] ++ m_fl (s_69.drop 1) from rfl).trans (by rw [fl_69_1]; rfl)
theorem tn_69_0 {L : Nat} {xs : Nat → Int32} : m_tg (p_P L xs) 69 0 = k_69_0 := (show m_tgl s_69 0 = m_fl (s_69.drop 0) from rfl).trans fl_69_0
theorem tg_69_23 {L : Nat} {xs : Nat → Int32} : m_tg (p_P L xs) 69 23 = k_69_23 := (show m_tgl s_69 23 = m_fl (s_69.drop 1) from rfl).trans fl_69_1
theorem tg_69_24 {L : Nat} {xs : Nat → Int32} : m_tg (p_P L xs) 69 24 = k_69_24 := (show m_tgl s_69 24 = m_fl (s_69.drop 2) from rfl).trans fl_69_2
noncomputable def k_70_24 : List Instr := .ireturn :: []
theorem fl_70_2 : m_fl (s_70.drop 2) = k_70_24 := rfl
noncomputable def k_70_23 : List Instr := .iconst 0 :: k_70_24
theorem fl_70_1 : m_fl (s_70.drop 1) = k_70_23 := (show m_fl (s_70.drop 1) = [.iconst 0] ++ m_fl (s_70.drop 2) from rfl).trans (by rw [fl_70_2]; rfl)
noncomputable def k_70_0 : List Instr := .aload 0 :: .getfield 520 :: .aload 0 :: .getfield 519 :: .if_icmp .ge 23 :: .aload 0 :: .getfield 517 :: .aload 0 :: .getfield 520 :: .iaload :: .goto 24 :: k_70_23
theorem fl_70_0 : m_fl (s_70.drop 0) = k_70_0 := (show m_fl (s_70.drop 0) = [.aload 0, .getfield 520, .aload 0, .getfield 519, .if_icmp .ge 23, .aload 0, .getfield 517, .aload 0, .getfield 520, .iaload, .goto 24] ++ m_fl (s_70.drop 1) from rfl).trans (by rw [fl_70_1]; rfl)
theorem tn_70_0 {L : Nat} {xs : Nat → Int32} : m_tg (p_P L xs) 70 0 = k_70_0 := (show m_tgl s_70 0 = m_fl (s_70.drop 0) from rfl).trans fl_70_0
theorem tg_70_23 {L : Nat} {xs : Nat → Int32} : m_tg (p_P L xs) 70 23 = k_70_23 := (show m_tgl s_70 23 = m_fl (s_70.drop 1) from rfl).trans fl_70_1
theorem tg_70_24 {L : Nat} {xs : Nat → Int32} : m_tg (p_P L xs) 70 24 = k_70_24 := (show m_tgl s_70 24 = m_fl (s_70.drop 2) from rfl).trans fl_70_2
noncomputable def k_71_29 : List Instr := .ret 0 :: []
theorem fl_71_2 : m_fl (s_71.drop 2) = k_71_29 := rfl
noncomputable def k_71_28 : List Instr := .iconst 0 :: k_71_29
theorem fl_71_1 : m_fl (s_71.drop 1) = k_71_28 := (show m_fl (s_71.drop 1) = [.iconst 0] ++ m_fl (s_71.drop 2) from rfl).trans (by rw [fl_71_2]; rfl)
noncomputable def k_71_0 : List Instr := .aload 0 :: .getfield 520 :: .aload 0 :: .getfield 519 :: .if_icmp .ge 28 :: .aload 0 :: .getfield 514 :: .aload 0 :: .getfield 520 :: .iaload :: .iconst 1 :: .if_icmp .ne 28 :: .iconst 1 :: .goto 29 :: k_71_28
theorem fl_71_0 : m_fl (s_71.drop 0) = k_71_0 := (show m_fl (s_71.drop 0) = [.aload 0, .getfield 520, .aload 0, .getfield 519, .if_icmp .ge 28, .aload 0, .getfield 514, .aload 0, .getfield 520, .iaload, .iconst 1, .if_icmp .ne 28, .iconst 1, .goto 29] ++ m_fl (s_71.drop 1) from rfl).trans (by rw [fl_71_1]; rfl)
theorem tn_71_0 {L : Nat} {xs : Nat → Int32} : m_tg (p_P L xs) 71 0 = k_71_0 := (show m_tgl s_71 0 = m_fl (s_71.drop 0) from rfl).trans fl_71_0
theorem tg_71_28 {L : Nat} {xs : Nat → Int32} : m_tg (p_P L xs) 71 28 = k_71_28 := (show m_tgl s_71 28 = m_fl (s_71.drop 1) from rfl).trans fl_71_1
theorem tg_71_29 {L : Nat} {xs : Nat → Int32} : m_tg (p_P L xs) 71 29 = k_71_29 := (show m_tgl s_71 29 = m_fl (s_71.drop 2) from rfl).trans fl_71_2
noncomputable def k_72_42 : List Instr := .ret 0 :: []
theorem fl_72_2 : m_fl (s_72.drop 2) = k_72_42 := rfl
noncomputable def k_72_41 : List Instr := .iconst 0 :: k_72_42
theorem fl_72_1 : m_fl (s_72.drop 1) = k_72_41 := (show m_fl (s_72.drop 1) = [.iconst 0] ++ m_fl (s_72.drop 2) from rfl).trans (by rw [fl_72_2]; rfl)
noncomputable def k_72_0 : List Instr := .aload 0 :: .getfield 520 :: .aload 0 :: .getfield 519 :: .if_icmp .ge 41 :: .aload 0 :: .getfield 514 :: .aload 0 :: .getfield 520 :: .iaload :: .iconst 2 :: .if_icmp .ne 41 :: .aload 0 :: .getfield 517 :: .aload 0 :: .getfield 520 :: .iaload :: .iload 1 :: .if_icmp .ne 41 :: .iconst 1 :: .goto 42 :: k_72_41
theorem fl_72_0 : m_fl (s_72.drop 0) = k_72_0 := (show m_fl (s_72.drop 0) = [.aload 0, .getfield 520, .aload 0, .getfield 519, .if_icmp .ge 41, .aload 0, .getfield 514, .aload 0, .getfield 520, .iaload, .iconst 2, .if_icmp .ne 41, .aload 0, .getfield 517, .aload 0, .getfield 520, .iaload, .iload 1, .if_icmp .ne 41, .iconst 1, .goto 42] ++ m_fl (s_72.drop 1) from rfl).trans (by rw [fl_72_1]; rfl)
theorem tn_72_0 {L : Nat} {xs : Nat → Int32} : m_tg (p_P L xs) 72 0 = k_72_0 := (show m_tgl s_72 0 = m_fl (s_72.drop 0) from rfl).trans fl_72_0
theorem tg_72_41 {L : Nat} {xs : Nat → Int32} : m_tg (p_P L xs) 72 41 = k_72_41 := (show m_tgl s_72 41 = m_fl (s_72.drop 1) from rfl).trans fl_72_1
theorem tg_72_42 {L : Nat} {xs : Nat → Int32} : m_tg (p_P L xs) 72 42 = k_72_42 := (show m_tgl s_72 42 = m_fl (s_72.drop 2) from rfl).trans fl_72_2
noncomputable def k_73_29 : List Instr := .ret 0 :: []
theorem fl_73_2 : m_fl (s_73.drop 2) = k_73_29 := rfl
noncomputable def k_73_28 : List Instr := .iconst 0 :: k_73_29
theorem fl_73_1 : m_fl (s_73.drop 1) = k_73_28 := (show m_fl (s_73.drop 1) = [.iconst 0] ++ m_fl (s_73.drop 2) from rfl).trans (by rw [fl_73_2]; rfl)
noncomputable def k_73_0 : List Instr := .aload 0 :: .getfield 520 :: .aload 0 :: .getfield 519 :: .if_icmp .ge 28 :: .aload 0 :: .getfield 518 :: .aload 0 :: .getfield 520 :: .checkcast 9 :: .aload 1 :: .if_acmp .ne 28 :: .iconst 1 :: .goto 29 :: k_73_28
theorem fl_73_0 : m_fl (s_73.drop 0) = k_73_0 := (show m_fl (s_73.drop 0) = [.aload 0, .getfield 520, .aload 0, .getfield 519, .if_icmp .ge 28, .aload 0, .getfield 518, .aload 0, .getfield 520, .checkcast 9, .aload 1, .if_acmp .ne 28, .iconst 1, .goto 29] ++ m_fl (s_73.drop 1) from rfl).trans (by rw [fl_73_1]; rfl)
theorem tn_73_0 {L : Nat} {xs : Nat → Int32} : m_tg (p_P L xs) 73 0 = k_73_0 := (show m_tgl s_73 0 = m_fl (s_73.drop 0) from rfl).trans fl_73_0
theorem tg_73_28 {L : Nat} {xs : Nat → Int32} : m_tg (p_P L xs) 73 28 = k_73_28 := (show m_tgl s_73 28 = m_fl (s_73.drop 1) from rfl).trans fl_73_1
theorem tg_73_29 {L : Nat} {xs : Nat → Int32} : m_tg (p_P L xs) 73 29 = k_73_29 := (show m_tgl s_73 29 = m_fl (s_73.drop 2) from rfl).trans fl_73_2
noncomputable def k_74_40 : List Instr := .ret 0 :: []
theorem fl_74_2 : m_fl (s_74.drop 2) = k_74_40 := rfl
noncomputable def k_74_39 : List Instr := .iconst 0 :: k_74_40
theorem fl_74_1 : m_fl (s_74.drop 1) = k_74_39 := (show m_fl (s_74.drop 1) = [.iconst 0] ++ m_fl (s_74.drop 2) from rfl).trans (by rw [fl_74_2]; rfl)
noncomputable def k_74_0 : List Instr := .aload 0 :: .getfield 520 :: .aload 0 :: .getfield 519 :: .if_icmp .ge 39 :: .aload 0 :: .getfield 514 :: .aload 0 :: .getfield 520 :: .iaload :: .ifCond .ne 39 :: .aload 0 :: .getfield 518 :: .aload 0 :: .getfield 520 :: .checkcast 9 :: .ifnonnull 39 :: .iconst 1 :: .goto 40 :: k_74_39
theorem fl_74_0 : m_fl (s_74.drop 0) = k_74_0 := (show m_fl (s_74.drop 0) = [.aload 0, .getfield 520, .aload 0, .getfield 519, .if_icmp .ge 39, .aload 0, .getfield 514, .aload 0, .getfield 520, .iaload, .ifCond .ne 39, .aload 0, .getfield 518, .aload 0, .getfield 520, .checkcast 9, .ifnonnull 39, .iconst 1, .goto 40] ++ m_fl (s_74.drop 1) from rfl).trans (by rw [fl_74_1]; rfl)
theorem tn_74_0 {L : Nat} {xs : Nat → Int32} : m_tg (p_P L xs) 74 0 = k_74_0 := (show m_tgl s_74 0 = m_fl (s_74.drop 0) from rfl).trans fl_74_0
theorem tg_74_39 {L : Nat} {xs : Nat → Int32} : m_tg (p_P L xs) 74 39 = k_74_39 := (show m_tgl s_74 39 = m_fl (s_74.drop 1) from rfl).trans fl_74_1
theorem tg_74_40 {L : Nat} {xs : Nat → Int32} : m_tg (p_P L xs) 74 40 = k_74_40 := (show m_tgl s_74 40 = m_fl (s_74.drop 2) from rfl).trans fl_74_2
noncomputable def k_75_51 : List Instr := .return_ :: []
theorem fl_75_3 : m_fl (s_75.drop 3) = k_75_51 := rfl
noncomputable def k_75_40 : List Instr := .putfield 522 :: .aload 0 :: .aload 0 :: .getfield 519 :: .putfield 520 :: k_75_51
theorem fl_75_2 : m_fl (s_75.drop 2) = k_75_40 := (show m_fl (s_75.drop 2) = [.putfield 522, .aload 0, .aload 0, .getfield 519, .putfield 520] ++ m_fl (s_75.drop 3) from rfl).trans (by rw [fl_75_3]; rfl)
noncomputable def k_75_36 : List Instr := .aload 0 :: .getfield 513 :: k_75_40
theorem fl_75_1 : m_fl (s_75.drop 1) = k_75_36 := (show m_fl (s_75.drop 1) = [.aload 0, .getfield 513] ++ m_fl (s_75.drop 2) from rfl).trans (by rw [fl_75_2]; rfl)
noncomputable def k_75_0 : List Instr := .aload 0 :: .getfield 521 :: .ifCond .ne 51 :: .aload 0 :: .iload 1 :: .putfield 521 :: .aload 0 :: .aload 0 :: .getfield 520 :: .aload 0 :: .getfield 519 :: .if_icmp .ge 36 :: .aload 0 :: .getfield 515 :: .aload 0 :: .getfield 520 :: .iaload :: .goto 40 :: k_75_36
theorem fl_75_0 : m_fl (s_75.drop 0) = k_75_0 := (show m_fl (s_75.drop 0) = [.aload 0, .getfield 521, .ifCond .ne 51, .aload 0, .iload 1, .putfield 521, .aload 0, .aload 0, .getfield 520, .aload 0, .getfield 519, .if_icmp .ge 36, .aload 0, .getfield 515, .aload 0, .getfield 520, .iaload, .goto 40] ++ m_fl (s_75.drop 1) from rfl).trans (by rw [fl_75_1]; rfl)
theorem tn_75_0 {L : Nat} {xs : Nat → Int32} : m_tg (p_P L xs) 75 0 = k_75_0 := (show m_tgl s_75 0 = m_fl (s_75.drop 0) from rfl).trans fl_75_0
theorem tg_75_36 {L : Nat} {xs : Nat → Int32} : m_tg (p_P L xs) 75 36 = k_75_36 := (show m_tgl s_75 36 = m_fl (s_75.drop 1) from rfl).trans fl_75_1
theorem tg_75_40 {L : Nat} {xs : Nat → Int32} : m_tg (p_P L xs) 75 40 = k_75_40 := (show m_tgl s_75 40 = m_fl (s_75.drop 2) from rfl).trans fl_75_2
theorem tg_75_51 {L : Nat} {xs : Nat → Int32} : m_tg (p_P L xs) 75 51 = k_75_51 := (show m_tgl s_75 51 = m_fl (s_75.drop 3) from rfl).trans fl_75_3
noncomputable def k_76_111 : List Instr := .iconst 1 :: .ret 0 :: []
theorem fl_76_5 : m_fl (s_76.drop 5) = k_76_111 := rfl
noncomputable def k_76_105 : List Instr := .iinc 3 1 :: .goto 57 :: k_76_111
theorem fl_76_4 : m_fl (s_76.drop 4) = k_76_105 := (show m_fl (s_76.drop 4) = [.iinc 3 1, .goto 57] ++ m_fl (s_76.drop 5) from rfl).trans (by rw [fl_76_5]; rfl)
noncomputable def k_76_57 : List Instr := .iload 3 :: .aload 0 :: .getfield 516 :: .iload 1 :: .iaload :: .aload 0 :: .getfield 515 :: .iload 1 :: .iaload :: .isub :: .if_icmp .ge 111 :: .aload 0 :: .getfield 512 :: .aload 0 :: .getfield 515 :: .iload 1 :: .iaload :: .iload 3 :: .iadd :: .baload :: .aload 0 :: .getfield 512 :: .aload 0 :: .getfield 515 :: .iload 2 :: .iaload :: .iload 3 :: .iadd :: .baload :: .if_icmp .eq 105 :: .iconst 0 :: .ret 0 :: k_76_105
theorem fl_76_3 : m_fl (s_76.drop 3) = k_76_57 := (show m_fl (s_76.drop 3) = [.iload 3, .aload 0, .getfield 516, .iload 1, .iaload, .aload 0, .getfield 515, .iload 1, .iaload, .isub, .if_icmp .ge 111, .aload 0, .getfield 512, .aload 0, .getfield 515, .iload 1, .iaload, .iload 3, .iadd, .baload, .aload 0, .getfield 512, .aload 0, .getfield 515, .iload 2, .iaload, .iload 3, .iadd, .baload, .if_icmp .eq 105, .iconst 0, .ret 0] ++ m_fl (s_76.drop 4) from rfl).trans (by rw [fl_76_4]; rfl)
noncomputable def k_76_55 : List Instr := .iconst 0 :: .istore 3 :: k_76_57
theorem fl_76_2 : m_fl (s_76.drop 2) = k_76_55 := (show m_fl (s_76.drop 2) = [.iconst 0, .istore 3] ++ m_fl (s_76.drop 3) from rfl).trans (by rw [fl_76_3]; rfl)
noncomputable def k_76_53 : List Instr := .iconst 0 :: .ret 0 :: k_76_55
theorem fl_76_1 : m_fl (s_76.drop 1) = k_76_53 := (show m_fl (s_76.drop 1) = [.iconst 0, .ret 0] ++ m_fl (s_76.drop 2) from rfl).trans (by rw [fl_76_2]; rfl)
noncomputable def k_76_0 : List Instr := .iload 1 :: .ifCond .lt 53 :: .iload 1 :: .aload 0 :: .getfield 519 :: .if_icmp .ge 53 :: .iload 2 :: .ifCond .lt 53 :: .iload 2 :: .aload 0 :: .getfield 519 :: .if_icmp .ge 53 :: .aload 0 :: .getfield 516 :: .iload 1 :: .iaload :: .aload 0 :: .getfield 515 :: .iload 1 :: .iaload :: .isub :: .aload 0 :: .getfield 516 :: .iload 2 :: .iaload :: .aload 0 :: .getfield 515 :: .iload 2 :: .iaload :: .isub :: .if_icmp .eq 55 :: k_76_53
theorem fl_76_0 : m_fl (s_76.drop 0) = k_76_0 := (show m_fl (s_76.drop 0) = [.iload 1, .ifCond .lt 53, .iload 1, .aload 0, .getfield 519, .if_icmp .ge 53, .iload 2, .ifCond .lt 53, .iload 2, .aload 0, .getfield 519, .if_icmp .ge 53, .aload 0, .getfield 516, .iload 1, .iaload, .aload 0, .getfield 515, .iload 1, .iaload, .isub, .aload 0, .getfield 516, .iload 2, .iaload, .aload 0, .getfield 515, .iload 2, .iaload, .isub, .if_icmp .eq 55] ++ m_fl (s_76.drop 1) from rfl).trans (by rw [fl_76_1]; rfl)
theorem tn_76_0 {L : Nat} {xs : Nat → Int32} : m_tg (p_P L xs) 76 0 = k_76_0 := (show m_tgl s_76 0 = m_fl (s_76.drop 0) from rfl).trans fl_76_0
theorem tg_76_53 {L : Nat} {xs : Nat → Int32} : m_tg (p_P L xs) 76 53 = k_76_53 := (show m_tgl s_76 53 = m_fl (s_76.drop 1) from rfl).trans fl_76_1
theorem tg_76_55 {L : Nat} {xs : Nat → Int32} : m_tg (p_P L xs) 76 55 = k_76_55 := (show m_tgl s_76 55 = m_fl (s_76.drop 2) from rfl).trans fl_76_2
theorem tg_76_57 {L : Nat} {xs : Nat → Int32} : m_tg (p_P L xs) 76 57 = k_76_57 := (show m_tgl s_76 57 = m_fl (s_76.drop 3) from rfl).trans fl_76_3
theorem tg_76_105 {L : Nat} {xs : Nat → Int32} : m_tg (p_P L xs) 76 105 = k_76_105 := (show m_tgl s_76 105 = m_fl (s_76.drop 4) from rfl).trans fl_76_4
theorem tg_76_111 {L : Nat} {xs : Nat → Int32} : m_tg (p_P L xs) 76 111 = k_76_111 := (show m_tgl s_76 111 = m_fl (s_76.drop 5) from rfl).trans fl_76_5
noncomputable def k_77_117 : List Instr := .return_ :: []
theorem fl_77_4 : m_fl (s_77.drop 4) = k_77_117 := rfl
noncomputable def k_77_88 : List Instr := .iload 2 :: .aload 0 :: .getfield 645 :: .ldc_w 207 :: .if_icmp .ge 117 :: .aload 0 :: .getfield 645 :: .iload 2 :: .new 7 :: .dup :: .iload 2 :: .invokespecial 51 :: .instanceof 7 :: .iinc 2 1 :: .goto 88 :: k_77_117
theorem fl_77_3 : m_fl (s_77.drop 3) = k_77_88 := (show m_fl (s_77.drop 3) = [.iload 2, .aload 0, .getfield 645, .ldc_w 207, .if_icmp .ge 117, .aload 0, .getfield 645, .iload 2, .new 7, .dup, .iload 2, .invokespecial 51, .instanceof 7, .iinc 2 1, .goto 88] ++ m_fl (s_77.drop 4) from rfl).trans (by rw [fl_77_4]; rfl)
noncomputable def k_77_86 : List Instr := .iconst 0 :: .istore 2 :: k_77_88
theorem fl_77_2 : m_fl (s_77.drop 2) = k_77_86 := (show m_fl (s_77.drop 2) = [.iconst 0, .istore 2] ++ m_fl (s_77.drop 3) from rfl).trans (by rw [fl_77_3]; rfl)
noncomputable def k_77_57 : List Instr := .iload 2 :: .aload 0 :: .getfield 644 :: .ldc_w 202 :: .if_icmp .ge 86 :: .aload 0 :: .getfield 644 :: .iload 2 :: .new 2 :: .dup :: .iload 2 :: .invokespecial 6 :: .instanceof 2 :: .iinc 2 1 :: .goto 57 :: k_77_86
theorem fl_77_1 : m_fl (s_77.drop 1) = k_77_57 := (show m_fl (s_77.drop 1) = [.iload 2, .aload 0, .getfield 644, .ldc_w 202, .if_icmp .ge 86, .aload 0, .getfield 644, .iload 2, .new 2, .dup, .iload 2, .invokespecial 6, .instanceof 2, .iinc 2 1, .goto 57] ++ m_fl (s_77.drop 2) from rfl).trans (by rw [fl_77_2]; rfl)
noncomputable def k_77_0 : List Instr := .aload 0 :: .invokespecial 9000 :: .aload 0 :: .iconst 0 :: .putfield 641 :: .aload 0 :: .iconst 0 :: .putfield 642 :: .aload 0 :: .iconst 4 :: .anewarray 2 :: .putfield 644 :: .aload 0 :: .iconst 100 :: .anewarray 7 :: .putfield 645 :: .aload 0 :: .new 4 :: .dup :: .invokespecial 23 :: .putfield 646 :: .aload 0 :: .aload 1 :: .putfield 640 :: .aload 0 :: .aload 1 :: .getfield 323 :: .putfield 643 :: .iconst 0 :: .istore 2 :: k_77_57
theorem fl_77_0 : m_fl (s_77.drop 0) = k_77_0 := (show m_fl (s_77.drop 0) = [.aload 0, .invokespecial 9000, .aload 0, .iconst 0, .putfield 641, .aload 0, .iconst 0, .putfield 642, .aload 0, .iconst 4, .anewarray 2, .putfield 644, .aload 0, .iconst 100, .anewarray 7, .putfield 645, .aload 0, .new 4, .dup, .invokespecial 23, .putfield 646, .aload 0, .aload 1, .putfield 640, .aload 0, .aload 1, .getfield 323, .putfield 643, .iconst 0, .istore 2] ++ m_fl (s_77.drop 1) from rfl).trans (by rw [fl_77_1]; rfl)
theorem tn_77_0 {L : Nat} {xs : Nat → Int32} : m_tg (p_P L xs) 77 0 = k_77_0 := (show m_tgl s_77 0 = m_fl (s_77.drop 0) from rfl).trans fl_77_0
theorem tg_77_57 {L : Nat} {xs : Nat → Int32} : m_tg (p_P L xs) 77 57 = k_77_57 := (show m_tgl s_77 57 = m_fl (s_77.drop 1) from rfl).trans fl_77_1
theorem tg_77_86 {L : Nat} {xs : Nat → Int32} : m_tg (p_P L xs) 77 86 = k_77_86 := (show m_tgl s_77 86 = m_fl (s_77.drop 2) from rfl).trans fl_77_2
theorem tg_77_88 {L : Nat} {xs : Nat → Int32} : m_tg (p_P L xs) 77 88 = k_77_88 := (show m_tgl s_77 88 = m_fl (s_77.drop 3) from rfl).trans fl_77_3
theorem tg_77_117 {L : Nat} {xs : Nat → Int32} : m_tg (p_P L xs) 77 117 = k_77_117 := (show m_tgl s_77 117 = m_fl (s_77.drop 4) from rfl).trans fl_77_4
noncomputable def k_78_104 : List Instr := .aload 0 :: .getfield 646 :: .aload 1 :: .getfield 646 :: .invokevirtual 24 :: .return_ :: []
theorem fl_78_4 : m_fl (s_78.drop 4) = k_78_104 := rfl
noncomputable def k_78_66 : List Instr := .iload 2 :: .aload 0 :: .getfield 642 :: .if_icmp .ge 104 :: .iload 2 :: .aload 0 :: .getfield 645 :: .ldc_w 207 :: .if_icmp .ge 104 :: .aload 0 :: .getfield 645 :: .iload 2 :: .checkcast 7 :: .aload 1 :: .getfield 645 :: .iload 2 :: .checkcast 7 :: .invokevirtual 53 :: .iinc 2 1 :: .goto 66 :: k_78_104
theorem fl_78_3 : m_fl (s_78.drop 3) = k_78_66 := (show m_fl (s_78.drop 3) = [.iload 2, .aload 0, .getfield 642, .if_icmp .ge 104, .iload 2, .aload 0, .getfield 645, .ldc_w 207, .if_icmp .ge 104, .aload 0, .getfield 645, .iload 2, .checkcast 7, .aload 1, .getfield 645, .iload 2, .checkcast 7, .invokevirtual 53, .iinc 2 1, .goto 66] ++ m_fl (s_78.drop 4) from rfl).trans (by rw [fl_78_4]; rfl)
noncomputable def k_78_64 : List Instr := .iconst 0 :: .istore 2 :: k_78_66
theorem fl_78_2 : m_fl (s_78.drop 2) = k_78_64 := (show m_fl (s_78.drop 2) = [.iconst 0, .istore 2] ++ m_fl (s_78.drop 3) from rfl).trans (by rw [fl_78_3]; rfl)
noncomputable def k_78_34 : List Instr := .iload 2 :: .aload 0 :: .getfield 644 :: .ldc_w 202 :: .if_icmp .ge 64 :: .aload 0 :: .getfield 644 :: .iload 2 :: .checkcast 2 :: .aload 1 :: .getfield 644 :: .iload 2 :: .checkcast 2 :: .invokevirtual 7 :: .iinc 2 1 :: .goto 34 :: k_78_64
theorem fl_78_1 : m_fl (s_78.drop 1) = k_78_34 := (show m_fl (s_78.drop 1) = [.iload 2, .aload 0, .getfield 644, .ldc_w 202, .if_icmp .ge 64, .aload 0, .getfield 644, .iload 2, .checkcast 2, .aload 1, .getfield 644, .iload 2, .checkcast 2, .invokevirtual 7, .iinc 2 1, .goto 34] ++ m_fl (s_78.drop 2) from rfl).trans (by rw [fl_78_2]; rfl)
noncomputable def k_78_0 : List Instr := .aload 0 :: .aload 1 :: .getfield 640 :: .putfield 640 :: .aload 0 :: .aload 1 :: .getfield 641 :: .putfield 641 :: .aload 0 :: .aload 1 :: .getfield 642 :: .putfield 642 :: .aload 0 :: .aload 1 :: .getfield 643 :: .putfield 643 :: .iconst 0 :: .istore 2 :: k_78_34
theorem fl_78_0 : m_fl (s_78.drop 0) = k_78_0 := (show m_fl (s_78.drop 0) = [.aload 0, .aload 1, .getfield 640, .putfield 640, .aload 0, .aload 1, .getfield 641, .putfield 641, .aload 0, .aload 1, .getfield 642, .putfield 642, .aload 0, .aload 1, .getfield 643, .putfield 643, .iconst 0, .istore 2] ++ m_fl (s_78.drop 1) from rfl).trans (by rw [fl_78_1]; rfl)
theorem tn_78_0 {L : Nat} {xs : Nat → Int32} : m_tg (p_P L xs) 78 0 = k_78_0 := (show m_tgl s_78 0 = m_fl (s_78.drop 0) from rfl).trans fl_78_0
theorem tg_78_34 {L : Nat} {xs : Nat → Int32} : m_tg (p_P L xs) 78 34 = k_78_34 := (show m_tgl s_78 34 = m_fl (s_78.drop 1) from rfl).trans fl_78_1
theorem tg_78_64 {L : Nat} {xs : Nat → Int32} : m_tg (p_P L xs) 78 64 = k_78_64 := (show m_tgl s_78 64 = m_fl (s_78.drop 2) from rfl).trans fl_78_2
theorem tg_78_66 {L : Nat} {xs : Nat → Int32} : m_tg (p_P L xs) 78 66 = k_78_66 := (show m_tgl s_78 66 = m_fl (s_78.drop 3) from rfl).trans fl_78_3
theorem tg_78_104 {L : Nat} {xs : Nat → Int32} : m_tg (p_P L xs) 78 104 = k_78_104 := (show m_tgl s_78 104 = m_fl (s_78.drop 4) from rfl).trans fl_78_4
noncomputable def k_79_34 : List Instr := .aload 0 :: .getfield 644 :: .iload 1 :: .checkcast 2 :: .areturn :: []
theorem fl_79_2 : m_fl (s_79.drop 2) = k_79_34 := rfl
noncomputable def k_79_24 : List Instr := .invokedynamic 0 :: k_79_34
theorem fl_79_1 : m_fl (s_79.drop 1) = k_79_24 := (show m_fl (s_79.drop 1) = [.invokedynamic 0] ++ m_fl (s_79.drop 2) from rfl).trans (by rw [fl_79_2]; rfl)
noncomputable def k_79_0 : List Instr := .iload 1 :: .ifCond .lt 24 :: .iload 1 :: .aload 0 :: .getfield 640 :: .getfield 320 :: .if_icmp .ge 24 :: .iload 1 :: .aload 0 :: .getfield 644 :: .ldc_w 202 :: .if_icmp .lt 34 :: k_79_24
theorem fl_79_0 : m_fl (s_79.drop 0) = k_79_0 := (show m_fl (s_79.drop 0) = [.iload 1, .ifCond .lt 24, .iload 1, .aload 0, .getfield 640, .getfield 320, .if_icmp .ge 24, .iload 1, .aload 0, .getfield 644, .ldc_w 202, .if_icmp .lt 34] ++ m_fl (s_79.drop 1) from rfl).trans (by rw [fl_79_1]; rfl)
theorem tn_79_0 {L : Nat} {xs : Nat → Int32} : m_tg (p_P L xs) 79 0 = k_79_0 := (show m_tgl s_79 0 = m_fl (s_79.drop 0) from rfl).trans fl_79_0
theorem tg_79_24 {L : Nat} {xs : Nat → Int32} : m_tg (p_P L xs) 79 24 = k_79_24 := (show m_tgl s_79 24 = m_fl (s_79.drop 1) from rfl).trans fl_79_1
theorem tg_79_34 {L : Nat} {xs : Nat → Int32} : m_tg (p_P L xs) 79 34 = k_79_34 := (show m_tgl s_79 34 = m_fl (s_79.drop 2) from rfl).trans fl_79_2
noncomputable def k_80_31 : List Instr := .aload 0 :: .getfield 645 :: .iload 1 :: .checkcast 7 :: .areturn :: []
theorem fl_80_2 : m_fl (s_80.drop 2) = k_80_31 := rfl
noncomputable def k_80_21 : List Instr := .invokedynamic 0 :: k_80_31
theorem fl_80_1 : m_fl (s_80.drop 1) = k_80_21 := (show m_fl (s_80.drop 1) = [.invokedynamic 0] ++ m_fl (s_80.drop 2) from rfl).trans (by rw [fl_80_2]; rfl)
noncomputable def k_80_0 : List Instr := .iload 1 :: .ifCond .lt 21 :: .iload 1 :: .aload 0 :: .getfield 642 :: .if_icmp .ge 21 :: .iload 1 :: .aload 0 :: .getfield 645 :: .ldc_w 207 :: .if_icmp .lt 31 :: k_80_21
theorem fl_80_0 : m_fl (s_80.drop 0) = k_80_0 := (show m_fl (s_80.drop 0) = [.iload 1, .ifCond .lt 21, .iload 1, .aload 0, .getfield 642, .if_icmp .ge 21, .iload 1, .aload 0, .getfield 645, .ldc_w 207, .if_icmp .lt 31] ++ m_fl (s_80.drop 1) from rfl).trans (by rw [fl_80_1]; rfl)
theorem tn_80_0 {L : Nat} {xs : Nat → Int32} : m_tg (p_P L xs) 80 0 = k_80_0 := (show m_tgl s_80 0 = m_fl (s_80.drop 0) from rfl).trans fl_80_0
theorem tg_80_21 {L : Nat} {xs : Nat → Int32} : m_tg (p_P L xs) 80 21 = k_80_21 := (show m_tgl s_80 21 = m_fl (s_80.drop 1) from rfl).trans fl_80_1
theorem tg_80_31 {L : Nat} {xs : Nat → Int32} : m_tg (p_P L xs) 80 31 = k_80_31 := (show m_tgl s_80 31 = m_fl (s_80.drop 2) from rfl).trans fl_80_2
noncomputable def k_81_0 : List Instr := .aload 0 :: .getfield 646 :: .iconst 2 :: .invokevirtual 27 :: .ireturn :: []
theorem fl_81_0 : m_fl (s_81.drop 0) = k_81_0 := rfl
theorem tn_81_0 {L : Nat} {xs : Nat → Int32} : m_tg (p_P L xs) 81 0 = k_81_0 := (show m_tgl s_81 0 = m_fl (s_81.drop 0) from rfl).trans fl_81_0
noncomputable def k_82_22 : List Instr := .aload 0 :: .aload 0 :: .getfield 642 :: .iconst 1 :: .isub :: .invokevirtual 80 :: .astore 3 :: .aload 3 :: .iload 1 :: .iload 2 :: .aload 0 :: .getfield 641 :: .invokevirtual 52 :: .aload 3 :: .areturn :: []
theorem fl_82_1 : m_fl (s_82.drop 1) = k_82_22 := rfl
noncomputable def k_82_0 : List Instr := .aload 0 :: .getfield 642 :: .aload 0 :: .getfield 645 :: .ldc_w 207 :: .if_icmp .ge 22 :: .aload 0 :: .dup :: .getfield 642 :: .iconst 1 :: .iadd :: .putfield 642 :: k_82_22
theorem fl_82_0 : m_fl (s_82.drop 0) = k_82_0 := (show m_fl (s_82.drop 0) = [.aload 0, .getfield 642, .aload 0, .getfield 645, .ldc_w 207, .if_icmp .ge 22, .aload 0, .dup, .getfield 642, .iconst 1, .iadd, .putfield 642] ++ m_fl (s_82.drop 1) from rfl).trans (by rw [fl_82_1]; rfl)
theorem tn_82_0 {L : Nat} {xs : Nat → Int32} : m_tg (p_P L xs) 82 0 = k_82_0 := (show m_tgl s_82 0 = m_fl (s_82.drop 0) from rfl).trans fl_82_0
theorem tg_82_22 {L : Nat} {xs : Nat → Int32} : m_tg (p_P L xs) 82 22 = k_82_22 := (show m_tgl s_82 22 = m_fl (s_82.drop 1) from rfl).trans fl_82_1
noncomputable def k_83_61 : List Instr := .return_ :: []
theorem fl_83_4 : m_fl (s_83.drop 4) = k_83_61 := rfl
noncomputable def k_83_45 : List Instr := .aload 0 :: .dup :: .getfield 641 :: .iconst 1 :: .iadd :: .putfield 641 :: .iinc 2 1 :: .goto 2 :: k_83_61
theorem fl_83_3 : m_fl (s_83.drop 3) = k_83_45 := (show m_fl (s_83.drop 3) = [.aload 0, .dup, .getfield 641, .iconst 1, .iadd, .putfield 641, .iinc 2 1, .goto 2] ++ m_fl (s_83.drop 4) from rfl).trans (by rw [fl_83_4]; rfl)
noncomputable def k_83_9 : List Instr := .iload 3 :: .aload 0 :: .getfield 640 :: .getfield 320 :: .if_icmp .ge 45 :: .iload 3 :: .aload 0 :: .getfield 644 :: .ldc_w 202 :: .if_icmp .ge 45 :: .aload 0 :: .aload 0 :: .getfield 644 :: .iload 3 :: .checkcast 2 :: .invokevirtual 84 :: .iinc 3 1 :: .goto 9 :: k_83_45
theorem fl_83_2 : m_fl (s_83.drop 2) = k_83_9 := (show m_fl (s_83.drop 2) = [.iload 3, .aload 0, .getfield 640, .getfield 320, .if_icmp .ge 45, .iload 3, .aload 0, .getfield 644, .ldc_w 202, .if_icmp .ge 45, .aload 0, .aload 0, .getfield 644, .iload 3, .checkcast 2, .invokevirtual 84, .iinc 3 1, .goto 9] ++ m_fl (s_83.drop 3) from rfl).trans (by rw [fl_83_3]; rfl)
noncomputable def k_83_2 : List Instr := .iload 2 :: .iload 1 :: .if_icmp .ge 61 :: .iconst 0 :: .istore 3 :: k_83_9
theorem fl_83_1 : m_fl (s_83.drop 1) = k_83_2 := (show m_fl (s_83.drop 1) = [.iload 2, .iload 1, .if_icmp .ge 61, .iconst 0, .istore 3] ++ m_fl (s_83.drop 2) from rfl).trans (by rw [fl_83_2]; rfl)
noncomputable def k_83_0 : List Instr := .iconst 0 :: .istore 2 :: k_83_2
theorem fl_83_0 : m_fl (s_83.drop 0) = k_83_0 := (show m_fl (s_83.drop 0) = [.iconst 0, .istore 2] ++ m_fl (s_83.drop 1) from rfl).trans (by rw [fl_83_1]; rfl)
theorem tn_83_0 {L : Nat} {xs : Nat → Int32} : m_tg (p_P L xs) 83 0 = k_83_0 := (show m_tgl s_83 0 = m_fl (s_83.drop 0) from rfl).trans fl_83_0
theorem tg_83_2 {L : Nat} {xs : Nat → Int32} : m_tg (p_P L xs) 83 2 = k_83_2 := (show m_tgl s_83 2 = m_fl (s_83.drop 1) from rfl).trans fl_83_1
theorem tg_83_9 {L : Nat} {xs : Nat → Int32} : m_tg (p_P L xs) 83 9 = k_83_9 := (show m_tgl s_83 9 = m_fl (s_83.drop 2) from rfl).trans fl_83_2
theorem tg_83_45 {L : Nat} {xs : Nat → Int32} : m_tg (p_P L xs) 83 45 = k_83_45 := (show m_tgl s_83 45 = m_fl (s_83.drop 3) from rfl).trans fl_83_3
theorem tg_83_61 {L : Nat} {xs : Nat → Int32} : m_tg (p_P L xs) 83 61 = k_83_61 := (show m_tgl s_83 61 = m_fl (s_83.drop 4) from rfl).trans fl_83_4
noncomputable def k_84_139 : List Instr := .return_ :: []
theorem fl_84_5 : m_fl (s_84.drop 5) = k_84_139 := rfl
noncomputable def k_84_96 : List Instr := .aload 1 :: .getfield 129 :: .ifCond .ne 139 :: .aload 1 :: .dup :: .getfield 141 :: .iconst 1 :: .iadd :: .putfield 141 :: .aload 0 :: .getfield 641 :: .iconst 1 :: .iadd :: .aload 1 :: .getfield 131 :: .isub :: .aload 0 :: .getfield 640 :: .getfield 325 :: .if_icmp .lt 139 :: .aload 1 :: .iconst 0 :: .putfield 132 :: k_84_139
theorem fl_84_4 : m_fl (s_84.drop 4) = k_84_96 := (show m_fl (s_84.drop 4) = [.aload 1, .getfield 129, .ifCond .ne 139, .aload 1, .dup, .getfield 141, .iconst 1, .iadd, .putfield 141, .aload 0, .getfield 641, .iconst 1, .iadd, .aload 1, .getfield 131, .isub, .aload 0, .getfield 640, .getfield 325, .if_icmp .lt 139, .aload 1, .iconst 0, .putfield 132] ++ m_fl (s_84.drop 5) from rfl).trans (by rw [fl_84_5]; rfl)
noncomputable def k_84_68 : List Instr := .aload 1 :: .getfield 129 :: .ifCond .ne 96 :: .aload 1 :: .getfield 137 :: .iconst (-1) :: .if_icmp .eq 96 :: .aload 0 :: .aload 1 :: .aload 0 :: .aload 1 :: .getfield 137 :: .invokevirtual 80 :: .invokevirtual 90 :: k_84_96
theorem fl_84_3 : m_fl (s_84.drop 3) = k_84_68 := (show m_fl (s_84.drop 3) = [.aload 1, .getfield 129, .ifCond .ne 96, .aload 1, .getfield 137, .iconst (-1), .if_icmp .eq 96, .aload 0, .aload 1, .aload 0, .aload 1, .getfield 137, .invokevirtual 80, .invokevirtual 90] ++ m_fl (s_84.drop 4) from rfl).trans (by rw [fl_84_4]; rfl)
noncomputable def k_84_48 : List Instr := .aload 1 :: .getfield 129 :: .ifCond .ne 68 :: .aload 1 :: .getfield 137 :: .iconst (-1) :: .if_icmp .ne 68 :: .aload 0 :: .aload 1 :: .invokevirtual 88 :: k_84_68
theorem fl_84_2 : m_fl (s_84.drop 2) = k_84_48 := (show m_fl (s_84.drop 2) = [.aload 1, .getfield 129, .ifCond .ne 68, .aload 1, .getfield 137, .iconst (-1), .if_icmp .ne 68, .aload 0, .aload 1, .invokevirtual 88] ++ m_fl (s_84.drop 3) from rfl).trans (by rw [fl_84_3]; rfl)
noncomputable def k_84_24 : List Instr := .aload 1 :: .getfield 129 :: .iconst 2 :: .if_icmp .eq 48 :: .aload 0 :: .getfield 641 :: .aload 1 :: .getfield 140 :: .if_icmp .lt 48 :: .aload 0 :: .aload 1 :: .invokevirtual 87 :: k_84_48
theorem fl_84_1 : m_fl (s_84.drop 1) = k_84_24 := (show m_fl (s_84.drop 1) = [.aload 1, .getfield 129, .iconst 2, .if_icmp .eq 48, .aload 0, .getfield 641, .aload 1, .getfield 140, .if_icmp .lt 48, .aload 0, .aload 1, .invokevirtual 87] ++ m_fl (s_84.drop 2) from rfl).trans (by rw [fl_84_2]; rfl)
noncomputable def k_84_0 : List Instr := .aload 1 :: .getfield 129 :: .iconst 1 :: .if_icmp .ne 24 :: .aload 0 :: .getfield 641 :: .aload 1 :: .getfield 130 :: .if_icmp .lt 24 :: .aload 0 :: .aload 1 :: .invokevirtual 85 :: k_84_24
theorem fl_84_0 : m_fl (s_84.drop 0) = k_84_0 := (show m_fl (s_84.drop 0) = [.aload 1, .getfield 129, .iconst 1, .if_icmp .ne 24, .aload 0, .getfield 641, .aload 1, .getfield 130, .if_icmp .lt 24, .aload 0, .aload 1, .invokevirtual 85] ++ m_fl (s_84.drop 1) from rfl).trans (by rw [fl_84_1]; rfl)
theorem tn_84_0 {L : Nat} {xs : Nat → Int32} : m_tg (p_P L xs) 84 0 = k_84_0 := (show m_tgl s_84 0 = m_fl (s_84.drop 0) from rfl).trans fl_84_0
theorem tg_84_24 {L : Nat} {xs : Nat → Int32} : m_tg (p_P L xs) 84 24 = k_84_24 := (show m_tgl s_84 24 = m_fl (s_84.drop 1) from rfl).trans fl_84_1
theorem tg_84_48 {L : Nat} {xs : Nat → Int32} : m_tg (p_P L xs) 84 48 = k_84_48 := (show m_tgl s_84 48 = m_fl (s_84.drop 2) from rfl).trans fl_84_2
theorem tg_84_68 {L : Nat} {xs : Nat → Int32} : m_tg (p_P L xs) 84 68 = k_84_68 := (show m_tgl s_84 68 = m_fl (s_84.drop 3) from rfl).trans fl_84_3
theorem tg_84_96 {L : Nat} {xs : Nat → Int32} : m_tg (p_P L xs) 84 96 = k_84_96 := (show m_tgl s_84 96 = m_fl (s_84.drop 4) from rfl).trans fl_84_4
theorem tg_84_139 {L : Nat} {xs : Nat → Int32} : m_tg (p_P L xs) 84 139 = k_84_139 := (show m_tgl s_84 139 = m_fl (s_84.drop 5) from rfl).trans fl_84_5
noncomputable def k_85_143 : List Instr := .return_ :: []
theorem fl_85_6 : m_fl (s_85.drop 6) = k_85_143 := rfl
noncomputable def k_85_122 : List Instr := .aload 1 :: .iconst (-1) :: .putfield 137 :: .aload 1 :: .aload 2 :: .getfield 448 :: .putfield 138 :: .aload 0 :: .aload 1 :: .aload 2 :: .iconst 7 :: .invokevirtual 101 :: k_85_143
theorem fl_85_5 : m_fl (s_85.drop 5) = k_85_122 := (show m_fl (s_85.drop 5) = [.aload 1, .iconst (-1), .putfield 137, .aload 1, .aload 2, .getfield 448, .putfield 138, .aload 0, .aload 1, .aload 2, .iconst 7, .invokevirtual 101] ++ m_fl (s_85.drop 6) from rfl).trans (by rw [fl_85_6]; rfl)
noncomputable def k_85_102 : List Instr := .iload 3 :: .iconst 1 :: .if_icmp .ne 122 :: .aload 0 :: .aload 1 :: .aload 2 :: .aload 0 :: .aload 1 :: .aload 2 :: .invokevirtual 92 :: .invokevirtual 94 :: .goto 143 :: k_85_122
theorem fl_85_4 : m_fl (s_85.drop 4) = k_85_102 := (show m_fl (s_85.drop 4) = [.iload 3, .iconst 1, .if_icmp .ne 122, .aload 0, .aload 1, .aload 2, .aload 0, .aload 1, .aload 2, .invokevirtual 92, .invokevirtual 94, .goto 143] ++ m_fl (s_85.drop 5) from rfl).trans (by rw [fl_85_5]; rfl)
noncomputable def k_85_73 : List Instr := .aload 0 :: .aload 1 :: .getfield 137 :: .invokevirtual 80 :: .astore 2 :: .aload 0 :: .aload 2 :: .invokevirtual 86 :: .istore 3 :: .iload 3 :: .iconst 2 :: .if_icmp .ne 102 :: .aload 0 :: .aload 2 :: .iconst 2 :: .invokevirtual 100 :: .goto 143 :: k_85_102
theorem fl_85_3 : m_fl (s_85.drop 3) = k_85_73 := (show m_fl (s_85.drop 3) = [.aload 0, .aload 1, .getfield 137, .invokevirtual 80, .astore 2, .aload 0, .aload 2, .invokevirtual 86, .istore 3, .iload 3, .iconst 2, .if_icmp .ne 102, .aload 0, .aload 2, .iconst 2, .invokevirtual 100, .goto 143] ++ m_fl (s_85.drop 4) from rfl).trans (by rw [fl_85_4]; rfl)
noncomputable def k_85_64 : List Instr := .aload 1 :: .getfield 137 :: .iconst (-1) :: .if_icmp .ne 73 :: .return_ :: k_85_73
theorem fl_85_2 : m_fl (s_85.drop 2) = k_85_64 := (show m_fl (s_85.drop 2) = [.aload 1, .getfield 137, .iconst (-1), .if_icmp .ne 73, .return_] ++ m_fl (s_85.drop 3) from rfl).trans (by rw [fl_85_3]; rfl)
noncomputable def k_85_36 : List Instr := .iload 2 :: .aload 1 :: .getfield 136 :: .if_icmp .ge 64 :: .aload 0 :: .aload 1 :: .aload 0 :: .aload 1 :: .iload 2 :: .invokevirtual 11 :: .invokevirtual 80 :: .invokevirtual 93 :: .iinc 2 1 :: .goto 36 :: k_85_64
theorem fl_85_1 : m_fl (s_85.drop 1) = k_85_36 := (show m_fl (s_85.drop 1) = [.iload 2, .aload 1, .getfield 136, .if_icmp .ge 64, .aload 0, .aload 1, .aload 0, .aload 1, .iload 2, .invokevirtual 11, .invokevirtual 80, .invokevirtual 93, .iinc 2 1, .goto 36] ++ m_fl (s_85.drop 2) from rfl).trans (by rw [fl_85_2]; rfl)
noncomputable def k_85_0 : List Instr := .aload 1 :: .iconst 0 :: .putfield 129 :: .aload 1 :: .aload 0 :: .getfield 641 :: .putfield 131 :: .aload 0 :: .getfield 646 :: .aload 0 :: .getfield 641 :: .iconst 5 :: .aload 1 :: .getfield 128 :: .iconst (-1) :: .invokevirtual 25 :: .aload 1 :: .invokevirtual 18 :: .iconst 0 :: .istore 2 :: k_85_36
theorem fl_85_0 : m_fl (s_85.drop 0) = k_85_0 := (show m_fl (s_85.drop 0) = [.aload 1, .iconst 0, .putfield 129, .aload 1, .aload 0, .getfield 641, .putfield 131, .aload 0, .getfield 646, .aload 0, .getfield 641, .iconst 5, .aload 1, .getfield 128, .iconst (-1), .invokevirtual 25, .aload 1, .invokevirtual 18, .iconst 0, .istore 2] ++ m_fl (s_85.drop 1) from rfl).trans (by rw [fl_85_1]; rfl)
theorem tn_85_0 {L : Nat} {xs : Nat → Int32} : m_tg (p_P L xs) 85 0 = k_85_0 := (show m_tgl s_85 0 = m_fl (s_85.drop 0) from rfl).trans fl_85_0
theorem tg_85_36 {L : Nat} {xs : Nat → Int32} : m_tg (p_P L xs) 85 36 = k_85_36 := (show m_tgl s_85 36 = m_fl (s_85.drop 1) from rfl).trans fl_85_1
theorem tg_85_64 {L : Nat} {xs : Nat → Int32} : m_tg (p_P L xs) 85 64 = k_85_64 := (show m_tgl s_85 64 = m_fl (s_85.drop 2) from rfl).trans fl_85_2
theorem tg_85_73 {L : Nat} {xs : Nat → Int32} : m_tg (p_P L xs) 85 73 = k_85_73 := (show m_tgl s_85 73 = m_fl (s_85.drop 3) from rfl).trans fl_85_3
theorem tg_85_102 {L : Nat} {xs : Nat → Int32} : m_tg (p_P L xs) 85 102 = k_85_102 := (show m_tgl s_85 102 = m_fl (s_85.drop 4) from rfl).trans fl_85_4
theorem tg_85_122 {L : Nat} {xs : Nat → Int32} : m_tg (p_P L xs) 85 122 = k_85_122 := (show m_tgl s_85 122 = m_fl (s_85.drop 5) from rfl).trans fl_85_5
theorem tg_85_143 {L : Nat} {xs : Nat → Int32} : m_tg (p_P L xs) 85 143 = k_85_143 := (show m_tgl s_85 143 = m_fl (s_85.drop 6) from rfl).trans fl_85_6
noncomputable def k_86_92 : List Instr := .ireturn :: []
theorem fl_86_6 : m_fl (s_86.drop 6) = k_86_92 := rfl
noncomputable def k_86_91 : List Instr := .iconst 0 :: k_86_92
theorem fl_86_5 : m_fl (s_86.drop 5) = k_86_91 := (show m_fl (s_86.drop 5) = [.iconst 0] ++ m_fl (s_86.drop 6) from rfl).trans (by rw [fl_86_6]; rfl)
noncomputable def k_86_80 : List Instr := .istore 4 :: .iload 4 :: .ifCond .eq 91 :: .iconst 1 :: .goto 92 :: k_86_91
theorem fl_86_4 : m_fl (s_86.drop 4) = k_86_80 := (show m_fl (s_86.drop 4) = [.istore 4, .iload 4, .ifCond .eq 91, .iconst 1, .goto 92] ++ m_fl (s_86.drop 5) from rfl).trans (by rw [fl_86_5]; rfl)
noncomputable def k_86_79 : List Instr := .iconst 0 :: k_86_80
theorem fl_86_3 : m_fl (s_86.drop 3) = k_86_79 := (show m_fl (s_86.drop 3) = [.iconst 0] ++ m_fl (s_86.drop 4) from rfl).trans (by rw [fl_86_4]; rfl)
noncomputable def k_86_32 : List Instr := .aload 0 :: .aload 1 :: .getfield 449 :: .invokevirtual 79 :: .astore 3 :: .aload 3 :: .aload 1 :: .getfield 451 :: .iconst 0 :: .invokevirtual 13 :: .aload 0 :: .getfield 640 :: .getfield 330 :: .aload 2 :: .getfield 67 :: .aload 2 :: .getfield 68 :: .aload 3 :: .getfield 133 :: .invokevirtual 2 :: .ifCond .eq 79 :: .iconst 1 :: .goto 80 :: k_86_79
theorem fl_86_2 : m_fl (s_86.drop 2) = k_86_32 := (show m_fl (s_86.drop 2) = [.aload 0, .aload 1, .getfield 449, .invokevirtual 79, .astore 3, .aload 3, .aload 1, .getfield 451, .iconst 0, .invokevirtual 13, .aload 0, .getfield 640, .getfield 330, .aload 2, .getfield 67, .aload 2, .getfield 68, .aload 3, .getfield 133, .invokevirtual 2, .ifCond .eq 79, .iconst 1, .goto 80] ++ m_fl (s_86.drop 3) from rfl).trans (by rw [fl_86_3]; rfl)
noncomputable def k_86_22 : List Instr := .aload 2 :: .getfield 65 :: .iconst 3 :: .if_icmp .eq 32 :: .iconst 0 :: .ireturn :: k_86_32
theorem fl_86_1 : m_fl (s_86.drop 1) = k_86_22 := (show m_fl (s_86.drop 1) = [.aload 2, .getfield 65, .iconst 3, .if_icmp .eq 32, .iconst 0, .ireturn] ++ m_fl (s_86.drop 2) from rfl).trans (by rw [fl_86_2]; rfl)
noncomputable def k_86_0 : List Instr := .aload 0 :: .getfield 640 :: .aload 1 :: .getfield 450 :: .invokevirtual 29 :: .astore 2 :: .aload 2 :: .getfield 65 :: .iconst 2 :: .if_icmp .ne 22 :: .iconst 2 :: .ireturn :: k_86_22
theorem fl_86_0 : m_fl (s_86.drop 0) = k_86_0 := (show m_fl (s_86.drop 0) = [.aload 0, .getfield 640, .aload 1, .getfield 450, .invokevirtual 29, .astore 2, .aload 2, .getfield 65, .iconst 2, .if_icmp .ne 22, .iconst 2, .ireturn] ++ m_fl (s_86.drop 1) from rfl).trans (by rw [fl_86_1]; rfl)
theorem tn_86_0 {L : Nat} {xs : Nat → Int32} : m_tg (p_P L xs) 86 0 = k_86_0 := (show m_tgl s_86 0 = m_fl (s_86.drop 0) from rfl).trans fl_86_0
theorem tg_86_22 {L : Nat} {xs : Nat → Int32} : m_tg (p_P L xs) 86 22 = k_86_22 := (show m_tgl s_86 22 = m_fl (s_86.drop 1) from rfl).trans fl_86_1
theorem tg_86_32 {L : Nat} {xs : Nat → Int32} : m_tg (p_P L xs) 86 32 = k_86_32 := (show m_tgl s_86 32 = m_fl (s_86.drop 2) from rfl).trans fl_86_2
theorem tg_86_79 {L : Nat} {xs : Nat → Int32} : m_tg (p_P L xs) 86 79 = k_86_79 := (show m_tgl s_86 79 = m_fl (s_86.drop 3) from rfl).trans fl_86_3
theorem tg_86_80 {L : Nat} {xs : Nat → Int32} : m_tg (p_P L xs) 86 80 = k_86_80 := (show m_tgl s_86 80 = m_fl (s_86.drop 4) from rfl).trans fl_86_4
theorem tg_86_91 {L : Nat} {xs : Nat → Int32} : m_tg (p_P L xs) 86 91 = k_86_91 := (show m_tgl s_86 91 = m_fl (s_86.drop 5) from rfl).trans fl_86_5
theorem tg_86_92 {L : Nat} {xs : Nat → Int32} : m_tg (p_P L xs) 86 92 = k_86_92 := (show m_tgl s_86 92 = m_fl (s_86.drop 6) from rfl).trans fl_86_6
noncomputable def k_87_78 : List Instr := .aload 1 :: .iload 2 :: .putfield 140 :: .return_ :: []
theorem fl_87_4 : m_fl (s_87.drop 4) = k_87_78 := rfl
noncomputable def k_87_72 : List Instr := .iinc 3 1 :: .goto 5 :: k_87_78
theorem fl_87_3 : m_fl (s_87.drop 3) = k_87_72 := (show m_fl (s_87.drop 3) = [.iinc 3 1, .goto 5] ++ m_fl (s_87.drop 4) from rfl).trans (by rw [fl_87_4]; rfl)
noncomputable def k_87_62 : List Instr := .iload 2 :: .aload 4 :: .invokevirtual 55 :: .invokestatic 9001 :: .istore 2 :: k_87_72
theorem fl_87_2 : m_fl (s_87.drop 2) = k_87_62 := (show m_fl (s_87.drop 2) = [.iload 2, .aload 4, .invokevirtual 55, .invokestatic 9001, .istore 2] ++ m_fl (s_87.drop 3) from rfl).trans (by rw [fl_87_3]; rfl)
noncomputable def k_87_5 : List Instr := .iload 3 :: .aload 0 :: .getfield 642 :: .if_icmp .ge 78 :: .aload 0 :: .iload 3 :: .invokevirtual 80 :: .astore 4 :: .aload 4 :: .getfield 449 :: .aload 1 :: .getfield 128 :: .if_icmp .ne 72 :: .aload 4 :: .getfield 455 :: .ifCond .ne 72 :: .aload 4 :: .invokevirtual 55 :: .aload 0 :: .getfield 641 :: .if_icmp .gt 62 :: .aload 0 :: .aload 4 :: .iconst 1 :: .invokevirtual 100 :: .goto 72 :: k_87_62
theorem fl_87_1 : m_fl (s_87.drop 1) = k_87_5 := (show m_fl (s_87.drop 1) = [.iload 3, .aload 0, .getfield 642, .if_icmp .ge 78, .aload 0, .iload 3, .invokevirtual 80, .astore 4, .aload 4, .getfield 449, .aload 1, .getfield 128, .if_icmp .ne 72, .aload 4, .getfield 455, .ifCond .ne 72, .aload 4, .invokevirtual 55, .aload 0, .getfield 641, .if_icmp .gt 62, .aload 0, .aload 4, .iconst 1, .invokevirtual 100, .goto 72] ++ m_fl (s_87.drop 2) from rfl).trans (by rw [fl_87_2]; rfl)
noncomputable def k_87_0 : List Instr := .iconst (2147483647) :: .istore 2 :: .iconst 0 :: .istore 3 :: k_87_5
theorem fl_87_0 : m_fl (s_87.drop 0) = k_87_0 := (show m_fl (s_87.drop 0) = [.iconst (2147483647), .istore 2, .iconst 0, .istore 3] ++ m_fl (s_87.drop 1) from rfl).trans (by rw [fl_87_1]; rfl)
theorem tn_87_0 {L : Nat} {xs : Nat → Int32} : m_tg (p_P L xs) 87 0 = k_87_0 := (show m_tgl s_87 0 = m_fl (s_87.drop 0) from rfl).trans fl_87_0
theorem tg_87_5 {L : Nat} {xs : Nat → Int32} : m_tg (p_P L xs) 87 5 = k_87_5 := (show m_tgl s_87 5 = m_fl (s_87.drop 1) from rfl).trans fl_87_1
theorem tg_87_62 {L : Nat} {xs : Nat → Int32} : m_tg (p_P L xs) 87 62 = k_87_62 := (show m_tgl s_87 62 = m_fl (s_87.drop 2) from rfl).trans fl_87_2
theorem tg_87_72 {L : Nat} {xs : Nat → Int32} : m_tg (p_P L xs) 87 72 = k_87_72 := (show m_tgl s_87 72 = m_fl (s_87.drop 3) from rfl).trans fl_87_3
theorem tg_87_78 {L : Nat} {xs : Nat → Int32} : m_tg (p_P L xs) 87 78 = k_87_78 := (show m_tgl s_87 78 = m_fl (s_87.drop 4) from rfl).trans fl_87_4
noncomputable def k_88_12 : List Instr := .aload 0 :: .iload 2 :: .invokevirtual 80 :: .astore 3 :: .aload 0 :: .aload 1 :: .aload 3 :: .invokevirtual 102 :: .aload 1 :: .iload 2 :: .putfield 137 :: .aload 3 :: .iconst 1 :: .putfield 455 :: .aload 3 :: .aload 0 :: .getfield 640 :: .aload 3 :: .getfield 450 :: .invokevirtual 29 :: .getfield 66 :: .putfield 460 :: .aload 0 :: .getfield 646 :: .aload 0 :: .getfield 641 :: .iconst 1 :: .aload 1 :: .getfield 128 :: .iload 2 :: .invokevirtual 25 :: .return_ :: []
theorem fl_88_1 : m_fl (s_88.drop 1) = k_88_12 := rfl
noncomputable def k_88_0 : List Instr := .aload 0 :: .aload 1 :: .invokevirtual 89 :: .istore 2 :: .iload 2 :: .iconst (-1) :: .if_icmp .ne 12 :: .return_ :: k_88_12
theorem fl_88_0 : m_fl (s_88.drop 0) = k_88_0 := (show m_fl (s_88.drop 0) = [.aload 0, .aload 1, .invokevirtual 89, .istore 2, .iload 2, .iconst (-1), .if_icmp .ne 12, .return_] ++ m_fl (s_88.drop 1) from rfl).trans (by rw [fl_88_1]; rfl)
theorem tn_88_0 {L : Nat} {xs : Nat → Int32} : m_tg (p_P L xs) 88 0 = k_88_0 := (show m_tgl s_88 0 = m_fl (s_88.drop 0) from rfl).trans fl_88_0
theorem tg_88_12 {L : Nat} {xs : Nat → Int32} : m_tg (p_P L xs) 88 12 = k_88_12 := (show m_tgl s_88 12 = m_fl (s_88.drop 1) from rfl).trans fl_88_1
noncomputable def k_89_88 : List Instr := .iload 2 :: .ireturn :: []
theorem fl_89_5 : m_fl (s_89.drop 5) = k_89_88 := rfl
noncomputable def k_89_82 : List Instr := .iinc 4 1 :: .goto 27 :: k_89_88
theorem fl_89_4 : m_fl (s_89.drop 4) = k_89_82 := (show m_fl (s_89.drop 4) = [.iinc 4 1, .goto 27] ++ m_fl (s_89.drop 5) from rfl).trans (by rw [fl_89_5]; rfl)
noncomputable def k_89_27 : List Instr := .iload 4 :: .aload 0 :: .getfield 642 :: .if_icmp .ge 88 :: .aload 0 :: .iload 4 :: .invokevirtual 80 :: .astore 5 :: .aload 5 :: .getfield 449 :: .aload 1 :: .getfield 128 :: .if_icmp .ne 82 :: .aload 5 :: .getfield 455 :: .ifCond .ne 82 :: .aload 5 :: .getfield 452 :: .iload 3 :: .if_icmp .le 82 :: .iload 4 :: .istore 2 :: .aload 5 :: .getfield 452 :: .istore 3 :: k_89_82
theorem fl_89_3 : m_fl (s_89.drop 3) = k_89_27 := (show m_fl (s_89.drop 3) = [.iload 4, .aload 0, .getfield 642, .if_icmp .ge 88, .aload 0, .iload 4, .invokevirtual 80, .astore 5, .aload 5, .getfield 449, .aload 1, .getfield 128, .if_icmp .ne 82, .aload 5, .getfield 455, .ifCond .ne 82, .aload 5, .getfield 452, .iload 3, .if_icmp .le 82, .iload 4, .istore 2, .aload 5, .getfield 452, .istore 3] ++ m_fl (s_89.drop 4) from rfl).trans (by rw [fl_89_4]; rfl)
noncomputable def k_89_20 : List Instr := .iconst (-1) :: .istore 2 :: .iconst (-1) :: .istore 3 :: .iconst 0 :: .istore 4 :: k_89_27
theorem fl_89_2 : m_fl (s_89.drop 2) = k_89_20 := (show m_fl (s_89.drop 2) = [.iconst (-1), .istore 2, .iconst (-1), .istore 3, .iconst 0, .istore 4] ++ m_fl (s_89.drop 3) from rfl).trans (by rw [fl_89_3]; rfl)
noncomputable def k_89_15 : List Instr := .aload 1 :: .getfield 138 :: .ireturn :: k_89_20
theorem fl_89_1 : m_fl (s_89.drop 1) = k_89_15 := (show m_fl (s_89.drop 1) = [.aload 1, .getfield 138, .ireturn] ++ m_fl (s_89.drop 2) from rfl).trans (by rw [fl_89_2]; rfl)
noncomputable def k_89_0 : List Instr := .aload 1 :: .getfield 138 :: .iconst (-1) :: .if_icmp .ne 15 :: .aload 1 :: .getfield 139 :: .ifCond .ne 20 :: k_89_15
theorem fl_89_0 : m_fl (s_89.drop 0) = k_89_0 := (show m_fl (s_89.drop 0) = [.aload 1, .getfield 138, .iconst (-1), .if_icmp .ne 15, .aload 1, .getfield 139, .ifCond .ne 20] ++ m_fl (s_89.drop 1) from rfl).trans (by rw [fl_89_1]; rfl)
theorem tn_89_0 {L : Nat} {xs : Nat → Int32} : m_tg (p_P L xs) 89 0 = k_89_0 := (show m_tgl s_89 0 = m_fl (s_89.drop 0) from rfl).trans fl_89_0
theorem tg_89_15 {L : Nat} {xs : Nat → Int32} : m_tg (p_P L xs) 89 15 = k_89_15 := (show m_tgl s_89 15 = m_fl (s_89.drop 1) from rfl).trans fl_89_1
theorem tg_89_20 {L : Nat} {xs : Nat → Int32} : m_tg (p_P L xs) 89 20 = k_89_20 := (show m_tgl s_89 20 = m_fl (s_89.drop 2) from rfl).trans fl_89_2
theorem tg_89_27 {L : Nat} {xs : Nat → Int32} : m_tg (p_P L xs) 89 27 = k_89_27 := (show m_tgl s_89 27 = m_fl (s_89.drop 3) from rfl).trans fl_89_3
theorem tg_89_82 {L : Nat} {xs : Nat → Int32} : m_tg (p_P L xs) 89 82 = k_89_82 := (show m_tgl s_89 82 = m_fl (s_89.drop 4) from rfl).trans fl_89_4
theorem tg_89_88 {L : Nat} {xs : Nat → Int32} : m_tg (p_P L xs) 89 88 = k_89_88 := (show m_tgl s_89 88 = m_fl (s_89.drop 5) from rfl).trans fl_89_5
noncomputable def k_90_62 : List Instr := .return_ :: []
theorem fl_90_4 : m_fl (s_90.drop 4) = k_90_62 := rfl
noncomputable def k_90_55 : List Instr := .aload 0 :: .aload 1 :: .aload 2 :: .iload 3 :: .invokevirtual 94 :: k_90_62
theorem fl_90_3 : m_fl (s_90.drop 3) = k_90_55 := (show m_fl (s_90.drop 3) = [.aload 0, .aload 1, .aload 2, .iload 3, .invokevirtual 94] ++ m_fl (s_90.drop 4) from rfl).trans (by rw [fl_90_4]; rfl)
noncomputable def k_90_32 : List Instr := .aload 0 :: .aload 1 :: .aload 2 :: .invokevirtual 91 :: .istore 3 :: .aload 2 :: .iconst 2 :: .invokevirtual 56 :: .ifCond .eq 55 :: .aload 0 :: .aload 1 :: .invokevirtual 96 :: .goto 62 :: k_90_55
theorem fl_90_2 : m_fl (s_90.drop 2) = k_90_32 := (show m_fl (s_90.drop 2) = [.aload 0, .aload 1, .aload 2, .invokevirtual 91, .istore 3, .aload 2, .iconst 2, .invokevirtual 56, .ifCond .eq 55, .aload 0, .aload 1, .invokevirtual 96, .goto 62] ++ m_fl (s_90.drop 3) from rfl).trans (by rw [fl_90_3]; rfl)
noncomputable def k_90_18 : List Instr := .aload 2 :: .iconst 1 :: .invokevirtual 56 :: .ifCond .eq 32 :: .aload 0 :: .aload 1 :: .invokevirtual 96 :: .return_ :: k_90_32
theorem fl_90_1 : m_fl (s_90.drop 1) = k_90_18 := (show m_fl (s_90.drop 1) = [.aload 2, .iconst 1, .invokevirtual 56, .ifCond .eq 32, .aload 0, .aload 1, .invokevirtual 96, .return_] ++ m_fl (s_90.drop 2) from rfl).trans (by rw [fl_90_2]; rfl)
noncomputable def k_90_0 : List Instr := .aload 2 :: .dup :: .getfield 460 :: .iconst 1 :: .isub :: .putfield 460 :: .aload 2 :: .getfield 460 :: .ifCond .le 18 :: .return_ :: k_90_18
theorem fl_90_0 : m_fl (s_90.drop 0) = k_90_0 := (show m_fl (s_90.drop 0) = [.aload 2, .dup, .getfield 460, .iconst 1, .isub, .putfield 460, .aload 2, .getfield 460, .ifCond .le 18, .return_] ++ m_fl (s_90.drop 1) from rfl).trans (by rw [fl_90_1]; rfl)
theorem tn_90_0 {L : Nat} {xs : Nat → Int32} : m_tg (p_P L xs) 90 0 = k_90_0 := (show m_tgl s_90 0 = m_fl (s_90.drop 0) from rfl).trans fl_90_0
theorem tg_90_18 {L : Nat} {xs : Nat → Int32} : m_tg (p_P L xs) 90 18 = k_90_18 := (show m_tgl s_90 18 = m_fl (s_90.drop 1) from rfl).trans fl_90_1
theorem tg_90_32 {L : Nat} {xs : Nat → Int32} : m_tg (p_P L xs) 90 32 = k_90_32 := (show m_tgl s_90 32 = m_fl (s_90.drop 2) from rfl).trans fl_90_2
theorem tg_90_55 {L : Nat} {xs : Nat → Int32} : m_tg (p_P L xs) 90 55 = k_90_55 := (show m_tgl s_90 55 = m_fl (s_90.drop 3) from rfl).trans fl_90_3
theorem tg_90_62 {L : Nat} {xs : Nat → Int32} : m_tg (p_P L xs) 90 62 = k_90_62 := (show m_tgl s_90 62 = m_fl (s_90.drop 4) from rfl).trans fl_90_4
noncomputable def k_91_0 : List Instr := .aload 0 :: .getfield 640 :: .aload 2 :: .getfield 450 :: .invokevirtual 29 :: .astore 3 :: .aload 0 :: .aload 1 :: .aload 2 :: .invokevirtual 92 :: .istore 4 :: .aload 1 :: .aload 2 :: .getfield 451 :: .iload 4 :: .invokevirtual 13 :: .aload 0 :: .getfield 640 :: .getfield 330 :: .aload 3 :: .getfield 69 :: .aload 3 :: .getfield 70 :: .aload 1 :: .getfield 133 :: .invokevirtual 2 :: .pop :: .aload 2 :: .dup :: .getfield 458 :: .iconst 1 :: .iadd :: .putfield 458 :: .iload 4 :: .ireturn :: []
theorem fl_91_0 : m_fl (s_91.drop 0) = k_91_0 := rfl
theorem tn_91_0 {L : Nat} {xs : Nat → Int32} : m_tg (p_P L xs) 91 0 = k_91_0 := (show m_tgl s_91 0 = m_fl (s_91.drop 0) from rfl).trans fl_91_0
noncomputable def k_92_0 : List Instr := .aload 0 :: .getfield 640 :: .aload 2 :: .getfield 450 :: .invokevirtual 29 :: .astore 3 :: .aload 1 :: .aload 2 :: .getfield 451 :: .iconst 0 :: .invokevirtual 13 :: .aload 0 :: .getfield 640 :: .getfield 330 :: .aload 3 :: .getfield 68 :: .aload 3 :: .getfield 69 :: .aload 1 :: .getfield 133 :: .invokevirtual 2 :: .ireturn :: []
theorem fl_92_0 : m_fl (s_92.drop 0) = k_92_0 := rfl
theorem tn_92_0 {L : Nat} {xs : Nat → Int32} : m_tg (p_P L xs) 92 0 = k_92_0 := (show m_tgl s_92 0 = m_fl (s_92.drop 0) from rfl).trans fl_92_0
noncomputable def k_93_0 : List Instr := .aload 0 :: .getfield 640 :: .aload 2 :: .getfield 450 :: .invokevirtual 29 :: .astore 3 :: .aload 1 :: .aload 2 :: .getfield 451 :: .aload 2 :: .getfield 457 :: .invokevirtual 13 :: .aload 0 :: .getfield 640 :: .getfield 330 :: .aload 3 :: .getfield 70 :: .aload 3 :: .getfield 71 :: .aload 1 :: .getfield 133 :: .invokevirtual 2 :: .pop :: .return_ :: []
theorem fl_93_0 : m_fl (s_93.drop 0) = k_93_0 := rfl
theorem tn_93_0 {L : Nat} {xs : Nat → Int32} : m_tg (p_P L xs) 93 0 = k_93_0 := (show m_tgl s_93 0 = m_fl (s_93.drop 0) from rfl).trans fl_93_0
noncomputable def k_94_100 : List Instr := .return_ :: []
theorem fl_94_1 : m_fl (s_94.drop 1) = k_94_100 := rfl
noncomputable def k_94_0 : List Instr := .aload 1 :: .iconst (-1) :: .putfield 137 :: .aload 2 :: .iconst 2 :: .aload 0 :: .getfield 641 :: .invokevirtual 57 :: .aload 2 :: .iload 3 :: .putfield 457 :: .aload 1 :: .dup :: .getfield 142 :: .iconst 1 :: .iadd :: .putfield 142 :: .aload 1 :: .dup :: .getfield 143 :: .aload 0 :: .getfield 641 :: .aload 2 :: .getfield 454 :: .isub :: .iadd :: .putfield 143 :: .aload 0 :: .aload 1 :: .aload 2 :: .invokevirtual 93 :: .aload 1 :: .aload 2 :: .getfield 448 :: .invokevirtual 14 :: .aload 0 :: .getfield 646 :: .aload 0 :: .getfield 641 :: .iconst 2 :: .aload 1 :: .getfield 128 :: .aload 2 :: .getfield 448 :: .invokevirtual 25 :: .aload 1 :: .getfield 136 :: .aload 0 :: .getfield 640 :: .getfield 328 :: .if_icmp .lt 100 :: .aload 0 :: .aload 1 :: .invokevirtual 95 :: k_94_100
theorem fl_94_0 : m_fl (s_94.drop 0) = k_94_0 := (show m_fl (s_94.drop 0) = [.aload 1, .iconst (-1), .putfield 137, .aload 2, .iconst 2, .aload 0, .getfield 641, .invokevirtual 57, .aload 2, .iload 3, .putfield 457, .aload 1, .dup, .getfield 142, .iconst 1, .iadd, .putfield 142, .aload 1, .dup, .getfield 143, .aload 0, .getfield 641, .aload 2, .getfield 454, .isub, .iadd, .putfield 143, .aload 0, .aload 1, .aload 2, .invokevirtual 93, .aload 1, .aload 2, .getfield 448, .invokevirtual 14, .aload 0, .getfield 646, .aload 0, .getfield 641, .iconst 2, .aload 1, .getfield 128, .aload 2, .getfield 448, .invokevirtual 25, .aload 1, .getfield 136, .aload 0, .getfield 640, .getfield 328, .if_icmp .lt 100, .aload 0, .aload 1, .invokevirtual 95] ++ m_fl (s_94.drop 1) from rfl).trans (by rw [fl_94_1]; rfl)
theorem tn_94_0 {L : Nat} {xs : Nat → Int32} : m_tg (p_P L xs) 94 0 = k_94_0 := (show m_tgl s_94 0 = m_fl (s_94.drop 0) from rfl).trans fl_94_0
theorem tg_94_100 {L : Nat} {xs : Nat → Int32} : m_tg (p_P L xs) 94 100 = k_94_100 := (show m_tgl s_94 100 = m_fl (s_94.drop 1) from rfl).trans fl_94_1
noncomputable def k_95_0 : List Instr := .aload 1 :: .invokevirtual 17 :: .aload 1 :: .iconst 0 :: .putfield 136 :: .aload 0 :: .getfield 646 :: .aload 0 :: .getfield 641 :: .iconst 6 :: .aload 1 :: .getfield 128 :: .iconst (-1) :: .invokevirtual 25 :: .return_ :: []
theorem fl_95_0 : m_fl (s_95.drop 0) = k_95_0 := rfl
theorem tn_95_0 {L : Nat} {xs : Nat → Int32} : m_tg (p_P L xs) 95 0 = k_95_0 := (show m_tgl s_95 0 = m_fl (s_95.drop 0) from rfl).trans fl_95_0
noncomputable def k_96_88 : List Instr := .return_ :: []
theorem fl_96_3 : m_fl (s_96.drop 3) = k_96_88 := rfl
noncomputable def k_96_69 : List Instr := .aload 1 :: .aload 0 :: .getfield 641 :: .iconst 1 :: .iadd :: .aload 0 :: .aload 1 :: .getfield 132 :: .invokevirtual 99 :: .iadd :: .invokevirtual 15 :: k_96_88
theorem fl_96_2 : m_fl (s_96.drop 2) = k_96_69 := (show m_fl (s_96.drop 2) = [.aload 1, .aload 0, .getfield 641, .iconst 1, .iadd, .aload 0, .aload 1, .getfield 132, .invokevirtual 99, .iadd, .invokevirtual 15] ++ m_fl (s_96.drop 3) from rfl).trans (by rw [fl_96_3]; rfl)
noncomputable def k_96_47 : List Instr := .aload 1 :: .getfield 132 :: .aload 0 :: .getfield 640 :: .getfield 326 :: .if_icmp .le 69 :: .aload 0 :: .aload 1 :: .invokevirtual 98 :: .goto 88 :: k_96_69
theorem fl_96_1 : m_fl (s_96.drop 1) = k_96_47 := (show m_fl (s_96.drop 1) = [.aload 1, .getfield 132, .aload 0, .getfield 640, .getfield 326, .if_icmp .le 69, .aload 0, .aload 1, .invokevirtual 98, .goto 88] ++ m_fl (s_96.drop 2) from rfl).trans (by rw [fl_96_2]; rfl)
noncomputable def k_96_0 : List Instr := .aload 1 :: .dup :: .getfield 132 :: .iconst 1 :: .iadd :: .putfield 132 :: .aload 0 :: .getfield 646 :: .aload 0 :: .getfield 641 :: .iconst 4 :: .aload 1 :: .getfield 128 :: .iconst (-1) :: .invokevirtual 25 :: .aload 1 :: .getfield 137 :: .iconst (-1) :: .if_icmp .eq 47 :: .aload 0 :: .aload 0 :: .aload 1 :: .getfield 137 :: .invokevirtual 80 :: .invokevirtual 97 :: k_96_47
theorem fl_96_0 : m_fl (s_96.drop 0) = k_96_0 := (show m_fl (s_96.drop 0) = [.aload 1, .dup, .getfield 132, .iconst 1, .iadd, .putfield 132, .aload 0, .getfield 646, .aload 0, .getfield 641, .iconst 4, .aload 1, .getfield 128, .iconst (-1), .invokevirtual 25, .aload 1, .getfield 137, .iconst (-1), .if_icmp .eq 47, .aload 0, .aload 0, .aload 1, .getfield 137, .invokevirtual 80, .invokevirtual 97] ++ m_fl (s_96.drop 1) from rfl).trans (by rw [fl_96_1]; rfl)
theorem tn_96_0 {L : Nat} {xs : Nat → Int32} : m_tg (p_P L xs) 96 0 = k_96_0 := (show m_tgl s_96 0 = m_fl (s_96.drop 0) from rfl).trans fl_96_0
theorem tg_96_47 {L : Nat} {xs : Nat → Int32} : m_tg (p_P L xs) 96 47 = k_96_47 := (show m_tgl s_96 47 = m_fl (s_96.drop 1) from rfl).trans fl_96_1
theorem tg_96_69 {L : Nat} {xs : Nat → Int32} : m_tg (p_P L xs) 96 69 = k_96_69 := (show m_tgl s_96 69 = m_fl (s_96.drop 2) from rfl).trans fl_96_2
theorem tg_96_88 {L : Nat} {xs : Nat → Int32} : m_tg (p_P L xs) 96 88 = k_96_88 := (show m_tgl s_96 88 = m_fl (s_96.drop 3) from rfl).trans fl_96_3
noncomputable def k_97_35 : List Instr := .return_ :: []
theorem fl_97_1 : m_fl (s_97.drop 1) = k_97_35 := rfl
noncomputable def k_97_0 : List Instr := .aload 1 :: .dup :: .getfield 459 :: .iconst 1 :: .iadd :: .putfield 459 :: .aload 1 :: .iconst 0 :: .putfield 460 :: .aload 1 :: .getfield 459 :: .aload 0 :: .getfield 640 :: .getfield 327 :: .if_icmp .lt 35 :: .aload 0 :: .aload 1 :: .iconst 3 :: .invokevirtual 100 :: k_97_35
theorem fl_97_0 : m_fl (s_97.drop 0) = k_97_0 := (show m_fl (s_97.drop 0) = [.aload 1, .dup, .getfield 459, .iconst 1, .iadd, .putfield 459, .aload 1, .iconst 0, .putfield 460, .aload 1, .getfield 459, .aload 0, .getfield 640, .getfield 327, .if_icmp .lt 35, .aload 0, .aload 1, .iconst 3, .invokevirtual 100] ++ m_fl (s_97.drop 1) from rfl).trans (by rw [fl_97_1]; rfl)
theorem tn_97_0 {L : Nat} {xs : Nat → Int32} : m_tg (p_P L xs) 97 0 = k_97_0 := (show m_tgl s_97 0 = m_fl (s_97.drop 0) from rfl).trans fl_97_0
theorem tg_97_35 {L : Nat} {xs : Nat → Int32} : m_tg (p_P L xs) 97 35 = k_97_35 := (show m_tgl s_97 35 = m_fl (s_97.drop 1) from rfl).trans fl_97_1
noncomputable def k_98_73 : List Instr := .return_ :: []
theorem fl_98_3 : m_fl (s_98.drop 3) = k_98_73 := rfl
noncomputable def k_98_67 : List Instr := .iinc 2 1 :: .goto 29 :: k_98_73
theorem fl_98_2 : m_fl (s_98.drop 2) = k_98_67 := (show m_fl (s_98.drop 2) = [.iinc 2 1, .goto 29] ++ m_fl (s_98.drop 3) from rfl).trans (by rw [fl_98_3]; rfl)
noncomputable def k_98_29 : List Instr := .iload 2 :: .aload 0 :: .getfield 642 :: .if_icmp .ge 73 :: .aload 0 :: .iload 2 :: .invokevirtual 80 :: .astore 3 :: .aload 3 :: .getfield 449 :: .aload 1 :: .getfield 128 :: .if_icmp .ne 67 :: .aload 3 :: .invokevirtual 54 :: .ifCond .ne 67 :: .aload 0 :: .aload 3 :: .iconst 5 :: .invokevirtual 100 :: k_98_67
theorem fl_98_1 : m_fl (s_98.drop 1) = k_98_29 := (show m_fl (s_98.drop 1) = [.iload 2, .aload 0, .getfield 642, .if_icmp .ge 73, .aload 0, .iload 2, .invokevirtual 80, .astore 3, .aload 3, .getfield 449, .aload 1, .getfield 128, .if_icmp .ne 67, .aload 3, .invokevirtual 54, .ifCond .ne 67, .aload 0, .aload 3, .iconst 5, .invokevirtual 100] ++ m_fl (s_98.drop 2) from rfl).trans (by rw [fl_98_2]; rfl)
noncomputable def k_98_0 : List Instr := .aload 1 :: .iconst 2 :: .putfield 129 :: .aload 1 :: .invokevirtual 16 :: .aload 0 :: .getfield 646 :: .aload 0 :: .getfield 641 :: .iconst 8 :: .aload 1 :: .getfield 128 :: .iconst (-1) :: .invokevirtual 25 :: .iconst 0 :: .istore 2 :: k_98_29
theorem fl_98_0 : m_fl (s_98.drop 0) = k_98_0 := (show m_fl (s_98.drop 0) = [.aload 1, .iconst 2, .putfield 129, .aload 1, .invokevirtual 16, .aload 0, .getfield 646, .aload 0, .getfield 641, .iconst 8, .aload 1, .getfield 128, .iconst (-1), .invokevirtual 25, .iconst 0, .istore 2] ++ m_fl (s_98.drop 1) from rfl).trans (by rw [fl_98_1]; rfl)
theorem tn_98_0 {L : Nat} {xs : Nat → Int32} : m_tg (p_P L xs) 98 0 = k_98_0 := (show m_tgl s_98 0 = m_fl (s_98.drop 0) from rfl).trans fl_98_0
theorem tg_98_29 {L : Nat} {xs : Nat → Int32} : m_tg (p_P L xs) 98 29 = k_98_29 := (show m_tgl s_98 29 = m_fl (s_98.drop 1) from rfl).trans fl_98_1
theorem tg_98_67 {L : Nat} {xs : Nat → Int32} : m_tg (p_P L xs) 98 67 = k_98_67 := (show m_tgl s_98 67 = m_fl (s_98.drop 2) from rfl).trans fl_98_2
theorem tg_98_73 {L : Nat} {xs : Nat → Int32} : m_tg (p_P L xs) 98 73 = k_98_73 := (show m_tgl s_98 73 = m_fl (s_98.drop 3) from rfl).trans fl_98_3
noncomputable def k_99_43 : List Instr := .iload 2 :: .ireturn :: []
theorem fl_99_2 : m_fl (s_99.drop 2) = k_99_43 := rfl
noncomputable def k_99_7 : List Instr := .iload 3 :: .iload 1 :: .if_icmp .ge 43 :: .iload 2 :: .aload 0 :: .getfield 640 :: .getfield 324 :: .if_icmp .ge 43 :: .iload 2 :: .iconst 2 :: .imul :: .aload 0 :: .getfield 640 :: .getfield 324 :: .invokestatic 9001 :: .istore 2 :: .iinc 3 1 :: .goto 7 :: k_99_43
theorem fl_99_1 : m_fl (s_99.drop 1) = k_99_7 := (show m_fl (s_99.drop 1) = [.iload 3, .iload 1, .if_icmp .ge 43, .iload 2, .aload 0, .getfield 640, .getfield 324, .if_icmp .ge 43, .iload 2, .iconst 2, .imul, .aload 0, .getfield 640, .getfield 324, .invokestatic 9001, .istore 2, .iinc 3 1, .goto 7] ++ m_fl (s_99.drop 2) from rfl).trans (by rw [fl_99_2]; rfl)
noncomputable def k_99_0 : List Instr := .aload 0 :: .getfield 643 :: .istore 2 :: .iconst 1 :: .istore 3 :: k_99_7
theorem fl_99_0 : m_fl (s_99.drop 0) = k_99_0 := (show m_fl (s_99.drop 0) = [.aload 0, .getfield 643, .istore 2, .iconst 1, .istore 3] ++ m_fl (s_99.drop 1) from rfl).trans (by rw [fl_99_1]; rfl)
theorem tn_99_0 {L : Nat} {xs : Nat → Int32} : m_tg (p_P L xs) 99 0 = k_99_0 := (show m_tgl s_99 0 = m_fl (s_99.drop 0) from rfl).trans fl_99_0
theorem tg_99_7 {L : Nat} {xs : Nat → Int32} : m_tg (p_P L xs) 99 7 = k_99_7 := (show m_tgl s_99 7 = m_fl (s_99.drop 1) from rfl).trans fl_99_1
theorem tg_99_43 {L : Nat} {xs : Nat → Int32} : m_tg (p_P L xs) 99 43 = k_99_43 := (show m_tgl s_99 43 = m_fl (s_99.drop 2) from rfl).trans fl_99_2
noncomputable def k_100_30 : List Instr := .aload 1 :: .iconst 3 :: .aload 0 :: .getfield 641 :: .invokevirtual 57 :: .aload 1 :: .iload 2 :: .putfield 456 :: .aload 0 :: .getfield 646 :: .aload 0 :: .getfield 641 :: .iconst 3 :: .aload 3 :: .getfield 128 :: .aload 1 :: .getfield 448 :: .invokevirtual 25 :: .return_ :: []
theorem fl_100_2 : m_fl (s_100.drop 2) = k_100_30 := rfl
noncomputable def k_100_25 : List Instr := .aload 3 :: .iconst (-1) :: .putfield 137 :: k_100_30
theorem fl_100_1 : m_fl (s_100.drop 1) = k_100_25 := (show m_fl (s_100.drop 1) = [.aload 3, .iconst (-1), .putfield 137] ++ m_fl (s_100.drop 2) from rfl).trans (by rw [fl_100_2]; rfl)
noncomputable def k_100_0 : List Instr := .aload 0 :: .aload 1 :: .getfield 449 :: .invokevirtual 79 :: .astore 3 :: .aload 1 :: .getfield 455 :: .ifCond .ne 25 :: .aload 0 :: .aload 3 :: .aload 1 :: .invokevirtual 102 :: .goto 30 :: k_100_25
theorem fl_100_0 : m_fl (s_100.drop 0) = k_100_0 := (show m_fl (s_100.drop 0) = [.aload 0, .aload 1, .getfield 449, .invokevirtual 79, .astore 3, .aload 1, .getfield 455, .ifCond .ne 25, .aload 0, .aload 3, .aload 1, .invokevirtual 102, .goto 30] ++ m_fl (s_100.drop 1) from rfl).trans (by rw [fl_100_1]; rfl)
theorem tn_100_0 {L : Nat} {xs : Nat → Int32} : m_tg (p_P L xs) 100 0 = k_100_0 := (show m_tgl s_100 0 = m_fl (s_100.drop 0) from rfl).trans fl_100_0
theorem tg_100_25 {L : Nat} {xs : Nat → Int32} : m_tg (p_P L xs) 100 25 = k_100_25 := (show m_tgl s_100 25 = m_fl (s_100.drop 1) from rfl).trans fl_100_1
theorem tg_100_30 {L : Nat} {xs : Nat → Int32} : m_tg (p_P L xs) 100 30 = k_100_30 := (show m_tgl s_100 30 = m_fl (s_100.drop 2) from rfl).trans fl_100_2
noncomputable def k_101_0 : List Instr := .aload 2 :: .iconst 0 :: .putfield 455 :: .aload 1 :: .dup :: .getfield 139 :: .iconst 1 :: .iadd :: .putfield 139 :: .aload 1 :: .aload 1 :: .getfield 140 :: .aload 2 :: .invokevirtual 55 :: .invokestatic 9001 :: .putfield 140 :: .aload 0 :: .getfield 646 :: .aload 0 :: .getfield 641 :: .iload 3 :: .aload 1 :: .getfield 128 :: .aload 2 :: .getfield 448 :: .invokevirtual 25 :: .return_ :: []
theorem fl_101_0 : m_fl (s_101.drop 0) = k_101_0 := rfl
theorem tn_101_0 {L : Nat} {xs : Nat → Int32} : m_tg (p_P L xs) 101 0 = k_101_0 := (show m_tgl s_101 0 = m_fl (s_101.drop 0) from rfl).trans fl_101_0
noncomputable def k_102_26 : List Instr := .return_ :: []
theorem fl_102_1 : m_fl (s_102.drop 1) = k_102_26 := rfl
noncomputable def k_102_0 : List Instr := .aload 1 :: .dup :: .getfield 139 :: .iconst 1 :: .isub :: .putfield 139 :: .aload 1 :: .getfield 138 :: .aload 2 :: .getfield 448 :: .if_icmp .ne 26 :: .aload 1 :: .iconst (-1) :: .putfield 138 :: k_102_26
theorem fl_102_0 : m_fl (s_102.drop 0) = k_102_0 := (show m_fl (s_102.drop 0) = [.aload 1, .dup, .getfield 139, .iconst 1, .isub, .putfield 139, .aload 1, .getfield 138, .aload 2, .getfield 448, .if_icmp .ne 26, .aload 1, .iconst (-1), .putfield 138] ++ m_fl (s_102.drop 1) from rfl).trans (by rw [fl_102_1]; rfl)
theorem tn_102_0 {L : Nat} {xs : Nat → Int32} : m_tg (p_P L xs) 102 0 = k_102_0 := (show m_tgl s_102 0 = m_fl (s_102.drop 0) from rfl).trans fl_102_0
theorem tg_102_26 {L : Nat} {xs : Nat → Int32} : m_tg (p_P L xs) 102 26 = k_102_26 := (show m_tgl s_102 26 = m_fl (s_102.drop 1) from rfl).trans fl_102_1
noncomputable def k_103_71 : List Instr := .ret 0 :: []
theorem fl_103_4 : m_fl (s_103.drop 4) = k_103_71 := rfl
noncomputable def k_103_70 : List Instr := .iconst 0 :: k_103_71
theorem fl_103_3 : m_fl (s_103.drop 3) = k_103_70 := (show m_fl (s_103.drop 3) = [.iconst 0] ++ m_fl (s_103.drop 4) from rfl).trans (by rw [fl_103_4]; rfl)
noncomputable def k_103_53 : List Instr := .aload 2 :: .iconst 0 :: .aload 2 :: .getfield 2 :: .aload 3 :: .invokevirtual 2 :: .ifCond .eq 70 :: .iconst 1 :: .goto 71 :: k_103_70
theorem fl_103_2 : m_fl (s_103.drop 2) = k_103_53 := (show m_fl (s_103.drop 2) = [.aload 2, .iconst 0, .aload 2, .getfield 2, .aload 3, .invokevirtual 2, .ifCond .eq 70, .iconst 1, .goto 71] ++ m_fl (s_103.drop 3) from rfl).trans (by rw [fl_103_3]; rfl)
noncomputable def k_103_27 : List Instr := .iload 6 :: .aload 3 :: .ldc_w 100 :: .if_icmp .ge 53 :: .aload 3 :: .iload 6 :: .aload 4 :: .iload 6 :: .iload 5 :: .invokevirtual 59 :: .iastore :: .iinc 6 1 :: .goto 27 :: k_103_53
theorem fl_103_1 : m_fl (s_103.drop 1) = k_103_27 := (show m_fl (s_103.drop 1) = [.iload 6, .aload 3, .ldc_w 100, .if_icmp .ge 53, .aload 3, .iload 6, .aload 4, .iload 6, .iload 5, .invokevirtual 59, .iastore, .iinc 6 1, .goto 27] ++ m_fl (s_103.drop 2) from rfl).trans (by rw [fl_103_2]; rfl)
noncomputable def k_103_0 : List Instr := .aload 0 :: .iload 1 :: .invokevirtual 80 :: .astore 4 :: .aload 0 :: .getfield 640 :: .aload 4 :: .getfield 450 :: .invokevirtual 29 :: .getfield 65 :: .istore 5 :: .iconst 0 :: .istore 6 :: k_103_27
theorem fl_103_0 : m_fl (s_103.drop 0) = k_103_0 := (show m_fl (s_103.drop 0) = [.aload 0, .iload 1, .invokevirtual 80, .astore 4, .aload 0, .getfield 640, .aload 4, .getfield 450, .invokevirtual 29, .getfield 65, .istore 5, .iconst 0, .istore 6] ++ m_fl (s_103.drop 1) from rfl).trans (by rw [fl_103_1]; rfl)
theorem tn_103_0 {L : Nat} {xs : Nat → Int32} : m_tg (p_P L xs) 103 0 = k_103_0 := (show m_tgl s_103 0 = m_fl (s_103.drop 0) from rfl).trans fl_103_0
theorem tg_103_27 {L : Nat} {xs : Nat → Int32} : m_tg (p_P L xs) 103 27 = k_103_27 := (show m_tgl s_103 27 = m_fl (s_103.drop 1) from rfl).trans fl_103_1
theorem tg_103_53 {L : Nat} {xs : Nat → Int32} : m_tg (p_P L xs) 103 53 = k_103_53 := (show m_tgl s_103 53 = m_fl (s_103.drop 2) from rfl).trans fl_103_2
theorem tg_103_70 {L : Nat} {xs : Nat → Int32} : m_tg (p_P L xs) 103 70 = k_103_70 := (show m_tgl s_103 70 = m_fl (s_103.drop 3) from rfl).trans fl_103_3
theorem tg_103_71 {L : Nat} {xs : Nat → Int32} : m_tg (p_P L xs) 103 71 = k_103_71 := (show m_tgl s_103 71 = m_fl (s_103.drop 4) from rfl).trans fl_103_4
noncomputable def k_104_0 : List Instr := .aload 0 :: .invokespecial 9000 :: .aload 0 :: .iconst 900 :: .newarray .byte :: .putfield 704 :: .aload 0 :: .iconst 0 :: .putfield 705 :: .aload 0 :: .iconst (-1) :: .putfield 706 :: .aload 0 :: .new 10 :: .dup :: .new 5 :: .dup :: .iconst 0 :: .invokespecial 28 :: .invokespecial 77 :: .putfield 707 :: .aload 0 :: .new 3 :: .dup :: .invokespecial 19 :: .putfield 708 :: .aload 0 :: .aconst_null :: .putfield 709 :: .aload 0 :: .iconst 0 :: .putfield 710 :: .aload 0 :: .aconst_null :: .putfield 711 :: .return_ :: []
theorem fl_104_0 : m_fl (s_104.drop 0) = k_104_0 := rfl
theorem tn_104_0 {L : Nat} {xs : Nat → Int32} : m_tg (p_P L xs) 104 0 = k_104_0 := (show m_tgl s_104 0 = m_fl (s_104.drop 0) from rfl).trans fl_104_0
noncomputable def k_105_15 : List Instr := .aload 0 :: .iload 1 :: .invokevirtual 106 :: .aload 0 :: .iload 2 :: .invokevirtual 106 :: .aload 0 :: .iload 3 :: .invokevirtual 106 :: .aload 0 :: .iload 4 :: .invokevirtual 106 :: .aload 0 :: .iload 5 :: .invokevirtual 106 :: .aload 0 :: .getfield 705 :: .ireturn :: []
theorem fl_105_1 : m_fl (s_105.drop 1) = k_105_15 := rfl
noncomputable def k_105_0 : List Instr := .aload 0 :: .getfield 705 :: .iconst 20 :: .iadd :: .iconst 900 :: .if_icmp .le 15 :: .iconst (-1) :: .ireturn :: k_105_15
theorem fl_105_0 : m_fl (s_105.drop 0) = k_105_0 := (show m_fl (s_105.drop 0) = [.aload 0, .getfield 705, .iconst 20, .iadd, .iconst 900, .if_icmp .le 15, .iconst (-1), .ireturn] ++ m_fl (s_105.drop 1) from rfl).trans (by rw [fl_105_1]; rfl)
theorem tn_105_0 {L : Nat} {xs : Nat → Int32} : m_tg (p_P L xs) 105 0 = k_105_0 := (show m_tgl s_105 0 = m_fl (s_105.drop 0) from rfl).trans fl_105_0
theorem tg_105_15 {L : Nat} {xs : Nat → Int32} : m_tg (p_P L xs) 105 15 = k_105_15 := (show m_tgl s_105 15 = m_fl (s_105.drop 1) from rfl).trans fl_105_1
noncomputable def k_106_48 : List Instr := .return_ :: []
theorem fl_106_3 : m_fl (s_106.drop 3) = k_106_48 := rfl
noncomputable def k_106_42 : List Instr := .iinc 2 (-8) :: .goto 3 :: k_106_48
theorem fl_106_2 : m_fl (s_106.drop 2) = k_106_42 := (show m_fl (s_106.drop 2) = [.iinc 2 (-8), .goto 3] ++ m_fl (s_106.drop 3) from rfl).trans (by rw [fl_106_3]; rfl)
noncomputable def k_106_3 : List Instr := .iload 2 :: .ifCond .lt 48 :: .aload 0 :: .getfield 705 :: .aload 0 :: .getfield 704 :: .ldc_w 101 :: .if_icmp .ge 42 :: .aload 0 :: .getfield 704 :: .aload 0 :: .getfield 705 :: .iload 1 :: .iload 2 :: .ishr :: .i2b :: .bastore :: .aload 0 :: .dup :: .getfield 705 :: .iconst 1 :: .iadd :: .putfield 705 :: k_106_42
theorem fl_106_1 : m_fl (s_106.drop 1) = k_106_3 := (show m_fl (s_106.drop 1) = [.iload 2, .ifCond .lt 48, .aload 0, .getfield 705, .aload 0, .getfield 704, .ldc_w 101, .if_icmp .ge 42, .aload 0, .getfield 704, .aload 0, .getfield 705, .iload 1, .iload 2, .ishr, .i2b, .bastore, .aload 0, .dup, .getfield 705, .iconst 1, .iadd, .putfield 705] ++ m_fl (s_106.drop 2) from rfl).trans (by rw [fl_106_2]; rfl)
noncomputable def k_106_0 : List Instr := .iconst 24 :: .istore 2 :: k_106_3
theorem fl_106_0 : m_fl (s_106.drop 0) = k_106_0 := (show m_fl (s_106.drop 0) = [.iconst 24, .istore 2] ++ m_fl (s_106.drop 1) from rfl).trans (by rw [fl_106_1]; rfl)
theorem tn_106_0 {L : Nat} {xs : Nat → Int32} : m_tg (p_P L xs) 106 0 = k_106_0 := (show m_tgl s_106 0 = m_fl (s_106.drop 0) from rfl).trans fl_106_0
theorem tg_106_3 {L : Nat} {xs : Nat → Int32} : m_tg (p_P L xs) 106 3 = k_106_3 := (show m_tgl s_106 3 = m_fl (s_106.drop 1) from rfl).trans fl_106_1
theorem tg_106_42 {L : Nat} {xs : Nat → Int32} : m_tg (p_P L xs) 106 42 = k_106_42 := (show m_tgl s_106 42 = m_fl (s_106.drop 2) from rfl).trans fl_106_2
theorem tg_106_48 {L : Nat} {xs : Nat → Int32} : m_tg (p_P L xs) 106 48 = k_106_48 := (show m_tgl s_106 48 = m_fl (s_106.drop 3) from rfl).trans fl_106_3
noncomputable def k_107_77 : List Instr := .aload 0 :: .new 10 :: .dup :: .aload 2 :: .getfield 386 :: .invokespecial 77 :: .putfield 707 :: .aload 0 :: .getfield 708 :: .invokevirtual 20 :: .aload 0 :: .iconst 0 :: .putfield 710 :: .aload 2 :: .getfield 386 :: .getfield 321 :: .ireturn :: []
theorem fl_107_3 : m_fl (s_107.drop 3) = k_107_77 := rfl
noncomputable def k_107_22 : List Instr := .new 6 :: .dup :: .aload 0 :: .getfield 704 :: .iload 1 :: .iconst 0 :: .invokespecial 31 :: .astore 2 :: .aload 2 :: .invokevirtual 32 :: .aload 0 :: .iconst 0 :: .putfield 705 :: .aload 0 :: .aload 2 :: .getfield 384 :: .getfield 522 :: .putfield 706 :: .aload 2 :: .getfield 384 :: .getfield 521 :: .ifCond .eq 77 :: .iconst (-10) :: .aload 2 :: .getfield 384 :: .getfield 521 :: .isub :: .ireturn :: k_107_77
theorem fl_107_2 : m_fl (s_107.drop 2) = k_107_22 := (show m_fl (s_107.drop 2) = [.new 6, .dup, .aload 0, .getfield 704, .iload 1, .iconst 0, .invokespecial 31, .astore 2, .aload 2, .invokevirtual 32, .aload 0, .iconst 0, .putfield 705, .aload 0, .aload 2, .getfield 384, .getfield 522, .putfield 706, .aload 2, .getfield 384, .getfield 521, .ifCond .eq 77, .iconst (-10), .aload 2, .getfield 384, .getfield 521, .isub, .ireturn] ++ m_fl (s_107.drop 3) from rfl).trans (by rw [fl_107_3]; rfl)
noncomputable def k_107_12 : List Instr := .invokedynamic 1 :: k_107_22
theorem fl_107_1 : m_fl (s_107.drop 1) = k_107_12 := (show m_fl (s_107.drop 1) = [.invokedynamic 1] ++ m_fl (s_107.drop 2) from rfl).trans (by rw [fl_107_2]; rfl)
noncomputable def k_107_0 : List Instr := .iload 1 :: .ifCond .lt 12 :: .iload 1 :: .aload 0 :: .getfield 705 :: .if_icmp .le 22 :: k_107_12
theorem fl_107_0 : m_fl (s_107.drop 0) = k_107_0 := (show m_fl (s_107.drop 0) = [.iload 1, .ifCond .lt 12, .iload 1, .aload 0, .getfield 705, .if_icmp .le 22] ++ m_fl (s_107.drop 1) from rfl).trans (by rw [fl_107_1]; rfl)
theorem tn_107_0 {L : Nat} {xs : Nat → Int32} : m_tg (p_P L xs) 107 0 = k_107_0 := (show m_tgl s_107 0 = m_fl (s_107.drop 0) from rfl).trans fl_107_0
theorem tg_107_12 {L : Nat} {xs : Nat → Int32} : m_tg (p_P L xs) 107 12 = k_107_12 := (show m_tgl s_107 12 = m_fl (s_107.drop 1) from rfl).trans fl_107_1
theorem tg_107_22 {L : Nat} {xs : Nat → Int32} : m_tg (p_P L xs) 107 22 = k_107_22 := (show m_tgl s_107 22 = m_fl (s_107.drop 2) from rfl).trans fl_107_2
theorem tg_107_77 {L : Nat} {xs : Nat → Int32} : m_tg (p_P L xs) 107 77 = k_107_77 := (show m_tgl s_107 77 = m_fl (s_107.drop 3) from rfl).trans fl_107_3
noncomputable def k_108_0 : List Instr := .aload 0 :: .getfield 706 :: .ireturn :: []
theorem fl_108_0 : m_fl (s_108.drop 0) = k_108_0 := rfl
theorem tn_108_0 {L : Nat} {xs : Nat → Int32} : m_tg (p_P L xs) 108 0 = k_108_0 := (show m_tgl s_108 0 = m_fl (s_108.drop 0) from rfl).trans fl_108_0
noncomputable def k_109_0 : List Instr := .aload 0 :: .getfield 707 :: .getfield 640 :: .getfield 320 :: .ireturn :: []
theorem fl_109_0 : m_fl (s_109.drop 0) = k_109_0 := rfl
theorem tn_109_0 {L : Nat} {xs : Nat → Int32} : m_tg (p_P L xs) 109 0 = k_109_0 := (show m_tgl s_109 0 = m_fl (s_109.drop 0) from rfl).trans fl_109_0
noncomputable def k_110_0 : List Instr := .aload 0 :: .getfield 707 :: .getfield 640 :: .getfield 321 :: .ireturn :: []
theorem fl_110_0 : m_fl (s_110.drop 0) = k_110_0 := rfl
theorem tn_110_0 {L : Nat} {xs : Nat → Int32} : m_tg (p_P L xs) 110 0 = k_110_0 := (show m_tgl s_110 0 = m_fl (s_110.drop 0) from rfl).trans fl_110_0
noncomputable def k_111_0 : List Instr := .aload 0 :: .getfield 707 :: .getfield 642 :: .ireturn :: []
theorem fl_111_0 : m_fl (s_111.drop 0) = k_111_0 := rfl
theorem tn_111_0 {L : Nat} {xs : Nat → Int32} : m_tg (p_P L xs) 111 0 = k_111_0 := (show m_tgl s_111 0 = m_fl (s_111.drop 0) from rfl).trans fl_111_0
noncomputable def k_112_0 : List Instr := .aload 0 :: .getfield 707 :: .getfield 641 :: .ireturn :: []
theorem fl_112_0 : m_fl (s_112.drop 0) = k_112_0 := rfl
theorem tn_112_0 {L : Nat} {xs : Nat → Int32} : m_tg (p_P L xs) 112 0 = k_112_0 := (show m_tgl s_112 0 = m_fl (s_112.drop 0) from rfl).trans fl_112_0
noncomputable def k_113_0 : List Instr := .aload 0 :: .getfield 707 :: .getfield 640 :: .iload 1 :: .invokevirtual 29 :: .getfield 65 :: .ireturn :: []
theorem fl_113_0 : m_fl (s_113.drop 0) = k_113_0 := rfl
theorem tn_113_0 {L : Nat} {xs : Nat → Int32} : m_tg (p_P L xs) 113 0 = k_113_0 := (show m_tgl s_113 0 = m_fl (s_113.drop 0) from rfl).trans fl_113_0
noncomputable def k_114_0 : List Instr := .aload 0 :: .getfield 707 :: .getfield 640 :: .iload 1 :: .invokevirtual 29 :: .getfield 66 :: .ireturn :: []
theorem fl_114_0 : m_fl (s_114.drop 0) = k_114_0 := rfl
theorem tn_114_0 {L : Nat} {xs : Nat → Int32} : m_tg (p_P L xs) 114 0 = k_114_0 := (show m_tgl s_114 0 = m_fl (s_114.drop 0) from rfl).trans fl_114_0
noncomputable def k_115_80 : List Instr := .aload 0 :: .getfield 708 :: .aload 0 :: .getfield 707 :: .invokevirtual 21 :: .aload 0 :: .getfield 707 :: .iload 1 :: .iload 2 :: .invokevirtual 82 :: .astore 7 :: .aload 7 :: .iload 3 :: .putfield 451 :: .aload 7 :: .iload 4 :: .putfield 452 :: .aload 7 :: .iload 5 :: .putfield 453 :: .aload 0 :: .getfield 707 :: .aload 6 :: .aload 7 :: .iconst 0 :: .invokevirtual 101 :: .aload 7 :: .getfield 448 :: .ireturn :: []
theorem fl_115_4 : m_fl (s_115.drop 4) = k_115_80 := rfl
noncomputable def k_115_65 : List Instr := .aload 0 :: .getfield 707 :: .getfield 642 :: .iconst 100 :: .if_icmp .lt 80 :: .iconst (-3) :: .ireturn :: k_115_80
theorem fl_115_3 : m_fl (s_115.drop 3) = k_115_65 := (show m_fl (s_115.drop 3) = [.aload 0, .getfield 707, .getfield 642, .iconst 100, .if_icmp .lt 80, .iconst (-3), .ireturn] ++ m_fl (s_115.drop 4) from rfl).trans (by rw [fl_115_4]; rfl)
noncomputable def k_115_53 : List Instr := .aload 6 :: .getfield 129 :: .iconst 2 :: .if_icmp .ne 65 :: .iconst (-2) :: .ireturn :: k_115_65
theorem fl_115_2 : m_fl (s_115.drop 2) = k_115_53 := (show m_fl (s_115.drop 2) = [.aload 6, .getfield 129, .iconst 2, .if_icmp .ne 65, .iconst (-2), .ireturn] ++ m_fl (s_115.drop 3) from rfl).trans (by rw [fl_115_3]; rfl)
noncomputable def k_115_43 : List Instr := .invokedynamic 1 :: k_115_53
theorem fl_115_1 : m_fl (s_115.drop 1) = k_115_43 := (show m_fl (s_115.drop 1) = [.invokedynamic 1] ++ m_fl (s_115.drop 2) from rfl).trans (by rw [fl_115_2]; rfl)
noncomputable def k_115_0 : List Instr := .aload 0 :: .getfield 707 :: .iload 1 :: .invokevirtual 79 :: .astore 6 :: .aload 0 :: .getfield 707 :: .getfield 640 :: .iload 2 :: .invokevirtual 29 :: .pop :: .iload 4 :: .iconst 0 :: .iconst 3 :: .invokestatic 151 :: .ifCond .eq 43 :: .iload 5 :: .iconst 0 :: .iconst (100000) :: .invokestatic 151 :: .ifCond .ne 53 :: k_115_43
theorem fl_115_0 : m_fl (s_115.drop 0) = k_115_0 := (show m_fl (s_115.drop 0) = [.aload 0, .getfield 707, .iload 1, .invokevirtual 79, .astore 6, .aload 0, .getfield 707, .getfield 640, .iload 2, .invokevirtual 29, .pop, .iload 4, .iconst 0, .iconst 3, .invokestatic 151, .ifCond .eq 43, .iload 5, .iconst 0, .iconst (100000), .invokestatic 151, .ifCond .ne 53] ++ m_fl (s_115.drop 1) from rfl).trans (by rw [fl_115_1]; rfl)
theorem tn_115_0 {L : Nat} {xs : Nat → Int32} : m_tg (p_P L xs) 115 0 = k_115_0 := (show m_tgl s_115 0 = m_fl (s_115.drop 0) from rfl).trans fl_115_0
theorem tg_115_43 {L : Nat} {xs : Nat → Int32} : m_tg (p_P L xs) 115 43 = k_115_43 := (show m_tgl s_115 43 = m_fl (s_115.drop 1) from rfl).trans fl_115_1
theorem tg_115_53 {L : Nat} {xs : Nat → Int32} : m_tg (p_P L xs) 115 53 = k_115_53 := (show m_tgl s_115 53 = m_fl (s_115.drop 2) from rfl).trans fl_115_2
theorem tg_115_65 {L : Nat} {xs : Nat → Int32} : m_tg (p_P L xs) 115 65 = k_115_65 := (show m_tgl s_115 65 = m_fl (s_115.drop 3) from rfl).trans fl_115_3
theorem tg_115_80 {L : Nat} {xs : Nat → Int32} : m_tg (p_P L xs) 115 80 = k_115_80 := (show m_tgl s_115 80 = m_fl (s_115.drop 4) from rfl).trans fl_115_4
noncomputable def k_116_19 : List Instr := .aload 0 :: .getfield 708 :: .aload 0 :: .getfield 707 :: .invokevirtual 21 :: .aload 0 :: .getfield 707 :: .aload 2 :: .iconst 4 :: .invokevirtual 100 :: .aload 0 :: .getfield 707 :: .getfield 641 :: .ireturn :: []
theorem fl_116_1 : m_fl (s_116.drop 1) = k_116_19 := rfl
noncomputable def k_116_0 : List Instr := .aload 0 :: .getfield 707 :: .iload 1 :: .invokevirtual 80 :: .astore 2 :: .aload 2 :: .getfield 455 :: .ifCond .eq 19 :: .iconst (-2) :: .ireturn :: k_116_19
theorem fl_116_0 : m_fl (s_116.drop 0) = k_116_0 := (show m_fl (s_116.drop 0) = [.aload 0, .getfield 707, .iload 1, .invokevirtual 80, .astore 2, .aload 2, .getfield 455, .ifCond .eq 19, .iconst (-2), .ireturn] ++ m_fl (s_116.drop 1) from rfl).trans (by rw [fl_116_1]; rfl)
theorem tn_116_0 {L : Nat} {xs : Nat → Int32} : m_tg (p_P L xs) 116 0 = k_116_0 := (show m_tgl s_116 0 = m_fl (s_116.drop 0) from rfl).trans fl_116_0
theorem tg_116_19 {L : Nat} {xs : Nat → Int32} : m_tg (p_P L xs) 116 19 = k_116_19 := (show m_tgl s_116 19 = m_fl (s_116.drop 1) from rfl).trans fl_116_1
noncomputable def k_117_50 : List Instr := .aload 0 :: .getfield 708 :: .aload 0 :: .getfield 707 :: .invokevirtual 21 :: .aload 4 :: .getfield 461 :: .istore 5 :: .aload 4 :: .iload 2 :: .putfield 461 :: .aload 4 :: .iload 3 :: .putfield 462 :: .iload 5 :: .ireturn :: []
theorem fl_117_3 : m_fl (s_117.drop 3) = k_117_50 := rfl
noncomputable def k_117_39 : List Instr := .aload 4 :: .invokevirtual 54 :: .ifCond .eq 50 :: .iconst (-2) :: .ireturn :: k_117_50
theorem fl_117_2 : m_fl (s_117.drop 2) = k_117_39 := (show m_fl (s_117.drop 2) = [.aload 4, .invokevirtual 54, .ifCond .eq 50, .iconst (-2), .ireturn] ++ m_fl (s_117.drop 3) from rfl).trans (by rw [fl_117_3]; rfl)
noncomputable def k_117_29 : List Instr := .invokedynamic 1 :: k_117_39
theorem fl_117_1 : m_fl (s_117.drop 1) = k_117_29 := (show m_fl (s_117.drop 1) = [.invokedynamic 1] ++ m_fl (s_117.drop 2) from rfl).trans (by rw [fl_117_2]; rfl)
noncomputable def k_117_0 : List Instr := .aload 0 :: .getfield 707 :: .iload 1 :: .invokevirtual 80 :: .astore 4 :: .iload 2 :: .iconst 0 :: .iconst 2 :: .invokestatic 151 :: .ifCond .eq 29 :: .iload 3 :: .iconst 0 :: .iconst 20 :: .invokestatic 151 :: .ifCond .ne 39 :: k_117_29
theorem fl_117_0 : m_fl (s_117.drop 0) = k_117_0 := (show m_fl (s_117.drop 0) = [.aload 0, .getfield 707, .iload 1, .invokevirtual 80, .astore 4, .iload 2, .iconst 0, .iconst 2, .invokestatic 151, .ifCond .eq 29, .iload 3, .iconst 0, .iconst 20, .invokestatic 151, .ifCond .ne 39] ++ m_fl (s_117.drop 1) from rfl).trans (by rw [fl_117_1]; rfl)
theorem tn_117_0 {L : Nat} {xs : Nat → Int32} : m_tg (p_P L xs) 117 0 = k_117_0 := (show m_tgl s_117 0 = m_fl (s_117.drop 0) from rfl).trans fl_117_0
theorem tg_117_29 {L : Nat} {xs : Nat → Int32} : m_tg (p_P L xs) 117 29 = k_117_29 := (show m_tgl s_117 29 = m_fl (s_117.drop 1) from rfl).trans fl_117_1
theorem tg_117_39 {L : Nat} {xs : Nat → Int32} : m_tg (p_P L xs) 117 39 = k_117_39 := (show m_tgl s_117 39 = m_fl (s_117.drop 2) from rfl).trans fl_117_2
theorem tg_117_50 {L : Nat} {xs : Nat → Int32} : m_tg (p_P L xs) 117 50 = k_117_50 := (show m_tgl s_117 50 = m_fl (s_117.drop 3) from rfl).trans fl_117_3
noncomputable def k_118_19 : List Instr := .aload 0 :: .getfield 708 :: .aload 0 :: .getfield 707 :: .invokevirtual 21 :: .aload 0 :: .getfield 707 :: .aload 2 :: .invokevirtual 96 :: .aload 2 :: .getfield 129 :: .ireturn :: []
theorem fl_118_1 : m_fl (s_118.drop 1) = k_118_19 := rfl
noncomputable def k_118_0 : List Instr := .aload 0 :: .getfield 707 :: .iload 1 :: .invokevirtual 79 :: .astore 2 :: .aload 2 :: .getfield 129 :: .ifCond .eq 19 :: .iconst (-2) :: .ireturn :: k_118_19
theorem fl_118_0 : m_fl (s_118.drop 0) = k_118_0 := (show m_fl (s_118.drop 0) = [.aload 0, .getfield 707, .iload 1, .invokevirtual 79, .astore 2, .aload 2, .getfield 129, .ifCond .eq 19, .iconst (-2), .ireturn] ++ m_fl (s_118.drop 1) from rfl).trans (by rw [fl_118_1]; rfl)
theorem tn_118_0 {L : Nat} {xs : Nat → Int32} : m_tg (p_P L xs) 118 0 = k_118_0 := (show m_tgl s_118 0 = m_fl (s_118.drop 0) from rfl).trans fl_118_0
theorem tg_118_19 {L : Nat} {xs : Nat → Int32} : m_tg (p_P L xs) 118 19 = k_118_19 := (show m_tgl s_118 19 = m_fl (s_118.drop 1) from rfl).trans fl_118_1
noncomputable def k_119_30 : List Instr := .aload 0 :: .getfield 708 :: .aload 0 :: .getfield 707 :: .invokevirtual 21 :: .aload 0 :: .getfield 707 :: .aload 2 :: .invokevirtual 95 :: .aload 2 :: .aload 0 :: .getfield 707 :: .getfield 641 :: .aload 0 :: .getfield 707 :: .getfield 640 :: .getfield 329 :: .iadd :: .invokevirtual 15 :: .aload 2 :: .getfield 130 :: .ireturn :: []
theorem fl_119_2 : m_fl (s_119.drop 2) = k_119_30 := rfl
noncomputable def k_119_19 : List Instr := .aload 2 :: .getfield 137 :: .iconst (-1) :: .if_icmp .eq 30 :: .iconst (-3) :: .ireturn :: k_119_30
theorem fl_119_1 : m_fl (s_119.drop 1) = k_119_19 := (show m_fl (s_119.drop 1) = [.aload 2, .getfield 137, .iconst (-1), .if_icmp .eq 30, .iconst (-3), .ireturn] ++ m_fl (s_119.drop 2) from rfl).trans (by rw [fl_119_2]; rfl)
noncomputable def k_119_0 : List Instr := .aload 0 :: .getfield 707 :: .iload 1 :: .invokevirtual 79 :: .astore 2 :: .aload 2 :: .getfield 129 :: .ifCond .eq 19 :: .iconst (-2) :: .ireturn :: k_119_19
theorem fl_119_0 : m_fl (s_119.drop 0) = k_119_0 := (show m_fl (s_119.drop 0) = [.aload 0, .getfield 707, .iload 1, .invokevirtual 79, .astore 2, .aload 2, .getfield 129, .ifCond .eq 19, .iconst (-2), .ireturn] ++ m_fl (s_119.drop 1) from rfl).trans (by rw [fl_119_1]; rfl)
theorem tn_119_0 {L : Nat} {xs : Nat → Int32} : m_tg (p_P L xs) 119 0 = k_119_0 := (show m_tgl s_119 0 = m_fl (s_119.drop 0) from rfl).trans fl_119_0
theorem tg_119_19 {L : Nat} {xs : Nat → Int32} : m_tg (p_P L xs) 119 19 = k_119_19 := (show m_tgl s_119 19 = m_fl (s_119.drop 1) from rfl).trans fl_119_1
theorem tg_119_30 {L : Nat} {xs : Nat → Int32} : m_tg (p_P L xs) 119 30 = k_119_30 := (show m_tgl s_119 30 = m_fl (s_119.drop 2) from rfl).trans fl_119_2
noncomputable def k_120_19 : List Instr := .aload 0 :: .getfield 708 :: .aload 0 :: .getfield 707 :: .invokevirtual 21 :: .aload 2 :: .getfield 136 :: .istore 3 :: .aload 0 :: .getfield 707 :: .aload 2 :: .invokevirtual 95 :: .iload 3 :: .ireturn :: []
theorem fl_120_1 : m_fl (s_120.drop 1) = k_120_19 := rfl
noncomputable def k_120_0 : List Instr := .aload 0 :: .getfield 707 :: .iload 1 :: .invokevirtual 79 :: .astore 2 :: .aload 2 :: .getfield 129 :: .ifCond .eq 19 :: .iconst (-2) :: .ireturn :: k_120_19
theorem fl_120_0 : m_fl (s_120.drop 0) = k_120_0 := (show m_fl (s_120.drop 0) = [.aload 0, .getfield 707, .iload 1, .invokevirtual 79, .astore 2, .aload 2, .getfield 129, .ifCond .eq 19, .iconst (-2), .ireturn] ++ m_fl (s_120.drop 1) from rfl).trans (by rw [fl_120_1]; rfl)
theorem tn_120_0 {L : Nat} {xs : Nat → Int32} : m_tg (p_P L xs) 120 0 = k_120_0 := (show m_tgl s_120 0 = m_fl (s_120.drop 0) from rfl).trans fl_120_0
theorem tg_120_19 {L : Nat} {xs : Nat → Int32} : m_tg (p_P L xs) 120 19 = k_120_19 := (show m_tgl s_120 19 = m_fl (s_120.drop 1) from rfl).trans fl_120_1
noncomputable def k_121_38 : List Instr := .aload 0 :: .getfield 708 :: .aload 0 :: .getfield 707 :: .invokevirtual 21 :: .aload 4 :: .iload 2 :: .iload 3 :: .invokevirtual 12 :: .iload 5 :: .ireturn :: []
theorem fl_121_1 : m_fl (s_121.drop 1) = k_121_38 := rfl
noncomputable def k_121_0 : List Instr := .aload 0 :: .getfield 707 :: .iload 1 :: .invokevirtual 79 :: .astore 4 :: .aload 4 :: .iload 2 :: .invokevirtual 8 :: .istore 5 :: .iload 3 :: .iconst 0 :: .iconst (65535) :: .invokestatic 151 :: .ifCond .ne 38 :: .invokedynamic 1 :: k_121_38
theorem fl_121_0 : m_fl (s_121.drop 0) = k_121_0 := (show m_fl (s_121.drop 0) = [.aload 0, .getfield 707, .iload 1, .invokevirtual 79, .astore 4, .aload 4, .iload 2, .invokevirtual 8, .istore 5, .iload 3, .iconst 0, .iconst (65535), .invokestatic 151, .ifCond .ne 38, .invokedynamic 1] ++ m_fl (s_121.drop 1) from rfl).trans (by rw [fl_121_1]; rfl)
theorem tn_121_0 {L : Nat} {xs : Nat → Int32} : m_tg (p_P L xs) 121 0 = k_121_0 := (show m_tgl s_121 0 = m_fl (s_121.drop 0) from rfl).trans fl_121_0
theorem tg_121_38 {L : Nat} {xs : Nat → Int32} : m_tg (p_P L xs) 121 38 = k_121_38 := (show m_tgl s_121 38 = m_fl (s_121.drop 1) from rfl).trans fl_121_1
noncomputable def k_122_38 : List Instr := .aload 0 :: .getfield 708 :: .aload 0 :: .getfield 707 :: .invokevirtual 21 :: .aload 0 :: .getfield 707 :: .invokevirtual 81 :: .istore 2 :: .aload 0 :: .getfield 707 :: .iload 1 :: .invokevirtual 83 :: .aload 0 :: .getfield 707 :: .invokevirtual 81 :: .iload 2 :: .isub :: .ireturn :: []
theorem fl_122_2 : m_fl (s_122.drop 2) = k_122_38 := rfl
noncomputable def k_122_21 : List Instr := .aload 0 :: .getfield 707 :: .getfield 641 :: .iload 1 :: .iadd :: .iconst (1000000) :: .if_icmp .le 38 :: .iconst (-4) :: .ireturn :: k_122_38
theorem fl_122_1 : m_fl (s_122.drop 1) = k_122_21 := (show m_fl (s_122.drop 1) = [.aload 0, .getfield 707, .getfield 641, .iload 1, .iadd, .iconst (1000000), .if_icmp .le 38, .iconst (-4), .ireturn] ++ m_fl (s_122.drop 2) from rfl).trans (by rw [fl_122_2]; rfl)
noncomputable def k_122_0 : List Instr := .iload 1 :: .iconst 0 :: .iconst 1000 :: .invokestatic 151 :: .ifCond .ne 21 :: .invokedynamic 1 :: k_122_21
theorem fl_122_0 : m_fl (s_122.drop 0) = k_122_0 := (show m_fl (s_122.drop 0) = [.iload 1, .iconst 0, .iconst 1000, .invokestatic 151, .ifCond .ne 21, .invokedynamic 1] ++ m_fl (s_122.drop 1) from rfl).trans (by rw [fl_122_1]; rfl)
theorem tn_122_0 {L : Nat} {xs : Nat → Int32} : m_tg (p_P L xs) 122 0 = k_122_0 := (show m_tgl s_122 0 = m_fl (s_122.drop 0) from rfl).trans fl_122_0
theorem tg_122_21 {L : Nat} {xs : Nat → Int32} : m_tg (p_P L xs) 122 21 = k_122_21 := (show m_tgl s_122 21 = m_fl (s_122.drop 1) from rfl).trans fl_122_1
theorem tg_122_38 {L : Nat} {xs : Nat → Int32} : m_tg (p_P L xs) 122 38 = k_122_38 := (show m_tgl s_122 38 = m_fl (s_122.drop 2) from rfl).trans fl_122_2
noncomputable def k_123_0 : List Instr := .aload 0 :: .getfield 707 :: .iload 1 :: .invokevirtual 79 :: .getfield 129 :: .ireturn :: []
theorem fl_123_0 : m_fl (s_123.drop 0) = k_123_0 := rfl
theorem tn_123_0 {L : Nat} {xs : Nat → Int32} : m_tg (p_P L xs) 123 0 = k_123_0 := (show m_tgl s_123 0 = m_fl (s_123.drop 0) from rfl).trans fl_123_0
noncomputable def k_124_25 : List Instr := .ireturn :: []
theorem fl_124_2 : m_fl (s_124.drop 2) = k_124_25 := rfl
noncomputable def k_124_24 : List Instr := .iconst (-1) :: k_124_25
theorem fl_124_1 : m_fl (s_124.drop 1) = k_124_24 := (show m_fl (s_124.drop 1) = [.iconst (-1)] ++ m_fl (s_124.drop 2) from rfl).trans (by rw [fl_124_2]; rfl)
noncomputable def k_124_0 : List Instr := .aload 0 :: .getfield 707 :: .iload 1 :: .invokevirtual 79 :: .astore 2 :: .aload 2 :: .getfield 129 :: .iconst 1 :: .if_icmp .ne 24 :: .aload 2 :: .getfield 130 :: .goto 25 :: k_124_24
theorem fl_124_0 : m_fl (s_124.drop 0) = k_124_0 := (show m_fl (s_124.drop 0) = [.aload 0, .getfield 707, .iload 1, .invokevirtual 79, .astore 2, .aload 2, .getfield 129, .iconst 1, .if_icmp .ne 24, .aload 2, .getfield 130, .goto 25] ++ m_fl (s_124.drop 1) from rfl).trans (by rw [fl_124_1]; rfl)
theorem tn_124_0 {L : Nat} {xs : Nat → Int32} : m_tg (p_P L xs) 124 0 = k_124_0 := (show m_tgl s_124 0 = m_fl (s_124.drop 0) from rfl).trans fl_124_0
theorem tg_124_24 {L : Nat} {xs : Nat → Int32} : m_tg (p_P L xs) 124 24 = k_124_24 := (show m_tgl s_124 24 = m_fl (s_124.drop 1) from rfl).trans fl_124_1
theorem tg_124_25 {L : Nat} {xs : Nat → Int32} : m_tg (p_P L xs) 124 25 = k_124_25 := (show m_tgl s_124 25 = m_fl (s_124.drop 2) from rfl).trans fl_124_2
noncomputable def k_125_0 : List Instr := .aload 0 :: .getfield 707 :: .iload 1 :: .invokevirtual 79 :: .getfield 132 :: .ireturn :: []
theorem fl_125_0 : m_fl (s_125.drop 0) = k_125_0 := rfl
theorem tn_125_0 {L : Nat} {xs : Nat → Int32} : m_tg (p_P L xs) 125 0 = k_125_0 := (show m_tgl s_125 0 = m_fl (s_125.drop 0) from rfl).trans fl_125_0
noncomputable def k_126_0 : List Instr := .aload 0 :: .getfield 707 :: .iload 1 :: .invokevirtual 79 :: .iload 2 :: .invokevirtual 8 :: .ireturn :: []
theorem fl_126_0 : m_fl (s_126.drop 0) = k_126_0 := rfl
theorem tn_126_0 {L : Nat} {xs : Nat → Int32} : m_tg (p_P L xs) 126 0 = k_126_0 := (show m_tgl s_126 0 = m_fl (s_126.drop 0) from rfl).trans fl_126_0
noncomputable def k_127_0 : List Instr := .aload 0 :: .getfield 707 :: .iload 1 :: .invokevirtual 79 :: .iload 2 :: .invokevirtual 9 :: .ireturn :: []
theorem fl_127_0 : m_fl (s_127.drop 0) = k_127_0 := rfl
theorem tn_127_0 {L : Nat} {xs : Nat → Int32} : m_tg (p_P L xs) 127 0 = k_127_0 := (show m_tgl s_127 0 = m_fl (s_127.drop 0) from rfl).trans fl_127_0
noncomputable def k_128_0 : List Instr := .aload 0 :: .getfield 707 :: .iload 1 :: .invokevirtual 79 :: .iload 2 :: .invokevirtual 10 :: .ireturn :: []
theorem fl_128_0 : m_fl (s_128.drop 0) = k_128_0 := rfl
theorem tn_128_0 {L : Nat} {xs : Nat → Int32} : m_tg (p_P L xs) 128 0 = k_128_0 := (show m_tgl s_128 0 = m_fl (s_128.drop 0) from rfl).trans fl_128_0
noncomputable def k_129_0 : List Instr := .aload 0 :: .getfield 707 :: .iload 1 :: .invokevirtual 79 :: .getfield 136 :: .ireturn :: []
theorem fl_129_0 : m_fl (s_129.drop 0) = k_129_0 := rfl
theorem tn_129_0 {L : Nat} {xs : Nat → Int32} : m_tg (p_P L xs) 129 0 = k_129_0 := (show m_tgl s_129 0 = m_fl (s_129.drop 0) from rfl).trans fl_129_0
noncomputable def k_130_23 : List Instr := .aload 3 :: .iload 2 :: .invokevirtual 11 :: .ireturn :: []
theorem fl_130_1 : m_fl (s_130.drop 1) = k_130_23 := rfl
noncomputable def k_130_0 : List Instr := .aload 0 :: .getfield 707 :: .iload 1 :: .invokevirtual 79 :: .astore 3 :: .iload 2 :: .ifCond .ge 23 :: .invokedynamic 0 :: k_130_23
theorem fl_130_0 : m_fl (s_130.drop 0) = k_130_0 := (show m_fl (s_130.drop 0) = [.aload 0, .getfield 707, .iload 1, .invokevirtual 79, .astore 3, .iload 2, .ifCond .ge 23, .invokedynamic 0] ++ m_fl (s_130.drop 1) from rfl).trans (by rw [fl_130_1]; rfl)
theorem tn_130_0 {L : Nat} {xs : Nat → Int32} : m_tg (p_P L xs) 130 0 = k_130_0 := (show m_tgl s_130 0 = m_fl (s_130.drop 0) from rfl).trans fl_130_0
theorem tg_130_23 {L : Nat} {xs : Nat → Int32} : m_tg (p_P L xs) 130 23 = k_130_23 := (show m_tgl s_130 23 = m_fl (s_130.drop 1) from rfl).trans fl_130_1
noncomputable def k_131_0 : List Instr := .aload 0 :: .getfield 707 :: .iload 1 :: .invokevirtual 79 :: .getfield 137 :: .ireturn :: []
theorem fl_131_0 : m_fl (s_131.drop 0) = k_131_0 := rfl
theorem tn_131_0 {L : Nat} {xs : Nat → Int32} : m_tg (p_P L xs) 131 0 = k_131_0 := (show m_tgl s_131 0 = m_fl (s_131.drop 0) from rfl).trans fl_131_0
noncomputable def k_132_0 : List Instr := .aload 0 :: .getfield 707 :: .aload 0 :: .getfield 707 :: .iload 1 :: .invokevirtual 79 :: .invokevirtual 89 :: .ireturn :: []
theorem fl_132_0 : m_fl (s_132.drop 0) = k_132_0 := rfl
theorem tn_132_0 {L : Nat} {xs : Nat → Int32} : m_tg (p_P L xs) 132 0 = k_132_0 := (show m_tgl s_132 0 = m_fl (s_132.drop 0) from rfl).trans fl_132_0
noncomputable def k_133_0 : List Instr := .aload 0 :: .getfield 707 :: .iload 1 :: .invokevirtual 79 :: .getfield 139 :: .ireturn :: []
theorem fl_133_0 : m_fl (s_133.drop 0) = k_133_0 := rfl
theorem tn_133_0 {L : Nat} {xs : Nat → Int32} : m_tg (p_P L xs) 133 0 = k_133_0 := (show m_tgl s_133 0 = m_fl (s_133.drop 0) from rfl).trans fl_133_0
noncomputable def k_134_0 : List Instr := .aload 0 :: .getfield 707 :: .iload 1 :: .invokevirtual 80 :: .iload 2 :: .invokevirtual 58 :: .ireturn :: []
theorem fl_134_0 : m_fl (s_134.drop 0) = k_134_0 := rfl
theorem tn_134_0 {L : Nat} {xs : Nat → Int32} : m_tg (p_P L xs) 134 0 = k_134_0 := (show m_tgl s_134 0 = m_fl (s_134.drop 0) from rfl).trans fl_134_0
noncomputable def k_135_0 : List Instr := .aload 0 :: .getfield 707 :: .getfield 646 :: .getfield 262 :: .ireturn :: []
theorem fl_135_0 : m_fl (s_135.drop 0) = k_135_0 := rfl
theorem tn_135_0 {L : Nat} {xs : Nat → Int32} : m_tg (p_P L xs) 135 0 = k_135_0 := (show m_tgl s_135 0 = m_fl (s_135.drop 0) from rfl).trans fl_135_0
noncomputable def k_136_0 : List Instr := .aload 0 :: .getfield 707 :: .getfield 646 :: .iload 1 :: .iload 2 :: .invokevirtual 26 :: .ireturn :: []
theorem fl_136_0 : m_fl (s_136.drop 0) = k_136_0 := rfl
theorem tn_136_0 {L : Nat} {xs : Nat → Int32} : m_tg (p_P L xs) 136 0 = k_136_0 := (show m_tgl s_136 0 = m_fl (s_136.drop 0) from rfl).trans fl_136_0
noncomputable def k_137_0 : List Instr := .aload 0 :: .getfield 707 :: .getfield 646 :: .iload 1 :: .invokevirtual 27 :: .ireturn :: []
theorem fl_137_0 : m_fl (s_137.drop 0) = k_137_0 := rfl
theorem tn_137_0 {L : Nat} {xs : Nat → Int32} : m_tg (p_P L xs) 137 0 = k_137_0 := (show m_tgl s_137 0 = m_fl (s_137.drop 0) from rfl).trans fl_137_0
noncomputable def k_138_37 : List Instr := .dreturn :: []
theorem fl_138_2 : m_fl (s_138.drop 2) = k_138_37 := rfl
noncomputable def k_138_23 : List Instr := .aload 2 :: .getfield 141 :: .i2d :: .aload 0 :: .getfield 707 :: .getfield 641 :: .i2d :: .ddiv :: k_138_37
theorem fl_138_1 : m_fl (s_138.drop 1) = k_138_23 := (show m_fl (s_138.drop 1) = [.aload 2, .getfield 141, .i2d, .aload 0, .getfield 707, .getfield 641, .i2d, .ddiv] ++ m_fl (s_138.drop 2) from rfl).trans (by rw [fl_138_2]; rfl)
noncomputable def k_138_0 : List Instr := .aload 0 :: .getfield 707 :: .iload 1 :: .invokevirtual 79 :: .astore 2 :: .aload 0 :: .getfield 707 :: .getfield 641 :: .ifCond .ne 23 :: .dconst 1 :: .goto 37 :: k_138_23
theorem fl_138_0 : m_fl (s_138.drop 0) = k_138_0 := (show m_fl (s_138.drop 0) = [.aload 0, .getfield 707, .iload 1, .invokevirtual 79, .astore 2, .aload 0, .getfield 707, .getfield 641, .ifCond .ne 23, .dconst 1, .goto 37] ++ m_fl (s_138.drop 1) from rfl).trans (by rw [fl_138_1]; rfl)
theorem tn_138_0 {L : Nat} {xs : Nat → Int32} : m_tg (p_P L xs) 138 0 = k_138_0 := (show m_tgl s_138 0 = m_fl (s_138.drop 0) from rfl).trans fl_138_0
theorem tg_138_23 {L : Nat} {xs : Nat → Int32} : m_tg (p_P L xs) 138 23 = k_138_23 := (show m_tgl s_138 23 = m_fl (s_138.drop 1) from rfl).trans fl_138_1
theorem tg_138_37 {L : Nat} {xs : Nat → Int32} : m_tg (p_P L xs) 138 37 = k_138_37 := (show m_tgl s_138 37 = m_fl (s_138.drop 2) from rfl).trans fl_138_2
noncomputable def k_139_18 : List Instr := .aload 2 :: .getfield 143 :: .i2d :: .aload 2 :: .getfield 142 :: .i2d :: .ddiv :: .d2f :: .freturn :: []
theorem fl_139_1 : m_fl (s_139.drop 1) = k_139_18 := rfl
noncomputable def k_139_0 : List Instr := .aload 0 :: .getfield 707 :: .iload 1 :: .invokevirtual 79 :: .astore 2 :: .aload 2 :: .getfield 142 :: .ifCond .ne 18 :: .fconst 0 :: .freturn :: k_139_18
theorem fl_139_0 : m_fl (s_139.drop 0) = k_139_0 := (show m_fl (s_139.drop 0) = [.aload 0, .getfield 707, .iload 1, .invokevirtual 79, .astore 2, .aload 2, .getfield 142, .ifCond .ne 18, .fconst 0, .freturn] ++ m_fl (s_139.drop 1) from rfl).trans (by rw [fl_139_1]; rfl)
theorem tn_139_0 {L : Nat} {xs : Nat → Int32} : m_tg (p_P L xs) 139 0 = k_139_0 := (show m_tgl s_139 0 = m_fl (s_139.drop 0) from rfl).trans fl_139_0
theorem tg_139_18 {L : Nat} {xs : Nat → Int32} : m_tg (p_P L xs) 139 18 = k_139_18 := (show m_tgl s_139 18 = m_fl (s_139.drop 1) from rfl).trans fl_139_1
noncomputable def k_140_68 : List Instr := .iconst (-1) :: .ireturn :: []
theorem fl_140_4 : m_fl (s_140.drop 4) = k_140_68 := rfl
noncomputable def k_140_62 : List Instr := .iinc 4 1 :: .goto 30 :: k_140_68
theorem fl_140_3 : m_fl (s_140.drop 3) = k_140_62 := (show m_fl (s_140.drop 3) = [.iinc 4 1, .goto 30] ++ m_fl (s_140.drop 4) from rfl).trans (by rw [fl_140_4]; rfl)
noncomputable def k_140_30 : List Instr := .iload 4 :: .iconst 1000 :: .if_icmp .gt 68 :: .aload 2 :: .getfield 641 :: .iconst (1000000) :: .if_icmp .ge 68 :: .aload 2 :: .iconst 1 :: .invokevirtual 83 :: .aload 3 :: .invokevirtual 54 :: .ifCond .eq 62 :: .iload 4 :: .ireturn :: k_140_62
theorem fl_140_2 : m_fl (s_140.drop 2) = k_140_30 := (show m_fl (s_140.drop 2) = [.iload 4, .iconst 1000, .if_icmp .gt 68, .aload 2, .getfield 641, .iconst (1000000), .if_icmp .ge 68, .aload 2, .iconst 1, .invokevirtual 83, .aload 3, .invokevirtual 54, .ifCond .eq 62, .iload 4, .ireturn] ++ m_fl (s_140.drop 3) from rfl).trans (by rw [fl_140_3]; rfl)
noncomputable def k_140_16 : List Instr := .aload 0 :: .invokevirtual 142 :: .astore 2 :: .aload 2 :: .iload 1 :: .invokevirtual 80 :: .astore 3 :: .iconst 1 :: .istore 4 :: k_140_30
theorem fl_140_1 : m_fl (s_140.drop 1) = k_140_16 := (show m_fl (s_140.drop 1) = [.aload 0, .invokevirtual 142, .astore 2, .aload 2, .iload 1, .invokevirtual 80, .astore 3, .iconst 1, .istore 4] ++ m_fl (s_140.drop 2) from rfl).trans (by rw [fl_140_2]; rfl)
noncomputable def k_140_0 : List Instr := .aload 0 :: .getfield 707 :: .iload 1 :: .invokevirtual 80 :: .invokevirtual 54 :: .ifCond .eq 16 :: .iconst 0 :: .ireturn :: k_140_16
theorem fl_140_0 : m_fl (s_140.drop 0) = k_140_0 := (show m_fl (s_140.drop 0) = [.aload 0, .getfield 707, .iload 1, .invokevirtual 80, .invokevirtual 54, .ifCond .eq 16, .iconst 0, .ireturn] ++ m_fl (s_140.drop 1) from rfl).trans (by rw [fl_140_1]; rfl)
theorem tn_140_0 {L : Nat} {xs : Nat → Int32} : m_tg (p_P L xs) 140 0 = k_140_0 := (show m_tgl s_140 0 = m_fl (s_140.drop 0) from rfl).trans fl_140_0
theorem tg_140_16 {L : Nat} {xs : Nat → Int32} : m_tg (p_P L xs) 140 16 = k_140_16 := (show m_tgl s_140 16 = m_fl (s_140.drop 1) from rfl).trans fl_140_1
theorem tg_140_30 {L : Nat} {xs : Nat → Int32} : m_tg (p_P L xs) 140 30 = k_140_30 := (show m_tgl s_140 30 = m_fl (s_140.drop 2) from rfl).trans fl_140_2
theorem tg_140_62 {L : Nat} {xs : Nat → Int32} : m_tg (p_P L xs) 140 62 = k_140_62 := (show m_tgl s_140 62 = m_fl (s_140.drop 3) from rfl).trans fl_140_3
theorem tg_140_68 {L : Nat} {xs : Nat → Int32} : m_tg (p_P L xs) 140 68 = k_140_68 := (show m_tgl s_140 68 = m_fl (s_140.drop 4) from rfl).trans fl_140_4
noncomputable def k_141_109 : List Instr := .iload 2 :: .ireturn :: []
theorem fl_141_5 : m_fl (s_141.drop 5) = k_141_109 := rfl
noncomputable def k_141_103 : List Instr := .iinc 5 1 :: .goto 59 :: k_141_109
theorem fl_141_4 : m_fl (s_141.drop 4) = k_141_103 := (show m_fl (s_141.drop 4) = [.iinc 5 1, .goto 59] ++ m_fl (s_141.drop 5) from rfl).trans (by rw [fl_141_5]; rfl)
noncomputable def k_141_59 : List Instr := .iload 5 :: .iload 4 :: .if_icmp .gt 109 :: .aload 0 :: .invokevirtual 142 :: .astore 6 :: .aload 6 :: .iload 5 :: .putfield 643 :: .aload 6 :: .iload 1 :: .invokevirtual 83 :: .aload 6 :: .invokevirtual 81 :: .iload 3 :: .if_icmp .le 103 :: .aload 6 :: .invokevirtual 81 :: .istore 3 :: .iload 5 :: .istore 2 :: k_141_103
theorem fl_141_3 : m_fl (s_141.drop 3) = k_141_59 := (show m_fl (s_141.drop 3) = [.iload 5, .iload 4, .if_icmp .gt 109, .aload 0, .invokevirtual 142, .astore 6, .aload 6, .iload 5, .putfield 643, .aload 6, .iload 1, .invokevirtual 83, .aload 6, .invokevirtual 81, .iload 3, .if_icmp .le 103, .aload 6, .invokevirtual 81, .istore 3, .iload 5, .istore 2] ++ m_fl (s_141.drop 4) from rfl).trans (by rw [fl_141_4]; rfl)
noncomputable def k_141_35 : List Instr := .iconst (-1) :: .istore 2 :: .iconst (-1) :: .istore 3 :: .iconst 16 :: .aload 0 :: .getfield 707 :: .getfield 640 :: .getfield 324 :: .invokestatic 9001 :: .istore 4 :: .iconst 1 :: .istore 5 :: k_141_59
theorem fl_141_2 : m_fl (s_141.drop 2) = k_141_35 := (show m_fl (s_141.drop 2) = [.iconst (-1), .istore 2, .iconst (-1), .istore 3, .iconst 16, .aload 0, .getfield 707, .getfield 640, .getfield 324, .invokestatic 9001, .istore 4, .iconst 1, .istore 5] ++ m_fl (s_141.drop 3) from rfl).trans (by rw [fl_141_3]; rfl)
noncomputable def k_141_25 : List Instr := .invokedynamic 1 :: k_141_35
theorem fl_141_1 : m_fl (s_141.drop 1) = k_141_25 := (show m_fl (s_141.drop 1) = [.invokedynamic 1] ++ m_fl (s_141.drop 2) from rfl).trans (by rw [fl_141_2]; rfl)
noncomputable def k_141_0 : List Instr := .iload 1 :: .iconst 0 :: .iconst 200 :: .invokestatic 151 :: .ifCond .eq 25 :: .aload 0 :: .getfield 707 :: .getfield 641 :: .iload 1 :: .iadd :: .iconst (1000000) :: .if_icmp .le 35 :: k_141_25
theorem fl_141_0 : m_fl (s_141.drop 0) = k_141_0 := (show m_fl (s_141.drop 0) = [.iload 1, .iconst 0, .iconst 200, .invokestatic 151, .ifCond .eq 25, .aload 0, .getfield 707, .getfield 641, .iload 1, .iadd, .iconst (1000000), .if_icmp .le 35] ++ m_fl (s_141.drop 1) from rfl).trans (by rw [fl_141_1]; rfl)
theorem tn_141_0 {L : Nat} {xs : Nat → Int32} : m_tg (p_P L xs) 141 0 = k_141_0 := (show m_tgl s_141 0 = m_fl (s_141.drop 0) from rfl).trans fl_141_0
theorem tg_141_25 {L : Nat} {xs : Nat → Int32} : m_tg (p_P L xs) 141 25 = k_141_25 := (show m_tgl s_141 25 = m_fl (s_141.drop 1) from rfl).trans fl_141_1
theorem tg_141_35 {L : Nat} {xs : Nat → Int32} : m_tg (p_P L xs) 141 35 = k_141_35 := (show m_tgl s_141 35 = m_fl (s_141.drop 2) from rfl).trans fl_141_2
theorem tg_141_59 {L : Nat} {xs : Nat → Int32} : m_tg (p_P L xs) 141 59 = k_141_59 := (show m_tgl s_141 59 = m_fl (s_141.drop 3) from rfl).trans fl_141_3
theorem tg_141_103 {L : Nat} {xs : Nat → Int32} : m_tg (p_P L xs) 141 103 = k_141_103 := (show m_tgl s_141 103 = m_fl (s_141.drop 4) from rfl).trans fl_141_4
theorem tg_141_109 {L : Nat} {xs : Nat → Int32} : m_tg (p_P L xs) 141 109 = k_141_109 := (show m_tgl s_141 109 = m_fl (s_141.drop 5) from rfl).trans fl_141_5
noncomputable def k_142_25 : List Instr := .aload 0 :: .getfield 711 :: .aload 0 :: .getfield 707 :: .invokevirtual 78 :: .aload 0 :: .getfield 711 :: .areturn :: []
theorem fl_142_1 : m_fl (s_142.drop 1) = k_142_25 := rfl
noncomputable def k_142_0 : List Instr := .aload 0 :: .getfield 711 :: .ifnonnull 25 :: .aload 0 :: .new 10 :: .dup :: .aload 0 :: .getfield 707 :: .getfield 640 :: .invokespecial 77 :: .putfield 711 :: k_142_25
theorem fl_142_0 : m_fl (s_142.drop 0) = k_142_0 := (show m_fl (s_142.drop 0) = [.aload 0, .getfield 711, .ifnonnull 25, .aload 0, .new 10, .dup, .aload 0, .getfield 707, .getfield 640, .invokespecial 77, .putfield 711] ++ m_fl (s_142.drop 1) from rfl).trans (by rw [fl_142_1]; rfl)
theorem tn_142_0 {L : Nat} {xs : Nat → Int32} : m_tg (p_P L xs) 142 0 = k_142_0 := (show m_tgl s_142 0 = m_fl (s_142.drop 0) from rfl).trans fl_142_0
theorem tg_142_25 {L : Nat} {xs : Nat → Int32} : m_tg (p_P L xs) 142 25 = k_142_25 := (show m_tgl s_142 25 = m_fl (s_142.drop 1) from rfl).trans fl_142_1
noncomputable def k_143_29 : List Instr := .ireturn :: []
theorem fl_143_2 : m_fl (s_143.drop 2) = k_143_29 := rfl
noncomputable def k_143_28 : List Instr := .iconst (-1) :: k_143_29
theorem fl_143_1 : m_fl (s_143.drop 1) = k_143_28 := (show m_fl (s_143.drop 1) = [.iconst (-1)] ++ m_fl (s_143.drop 2) from rfl).trans (by rw [fl_143_2]; rfl)
noncomputable def k_143_0 : List Instr := .aload 0 :: .getfield 707 :: .iload 1 :: .invokevirtual 80 :: .astore 2 :: .aload 2 :: .getfield 455 :: .iconst 1 :: .if_icmp .ne 28 :: .aload 0 :: .getfield 707 :: .aload 2 :: .invokevirtual 86 :: .goto 29 :: k_143_28
theorem fl_143_0 : m_fl (s_143.drop 0) = k_143_0 := (show m_fl (s_143.drop 0) = [.aload 0, .getfield 707, .iload 1, .invokevirtual 80, .astore 2, .aload 2, .getfield 455, .iconst 1, .if_icmp .ne 28, .aload 0, .getfield 707, .aload 2, .invokevirtual 86, .goto 29] ++ m_fl (s_143.drop 1) from rfl).trans (by rw [fl_143_1]; rfl)
theorem tn_143_0 {L : Nat} {xs : Nat → Int32} : m_tg (p_P L xs) 143 0 = k_143_0 := (show m_tgl s_143 0 = m_fl (s_143.drop 0) from rfl).trans fl_143_0
theorem tg_143_28 {L : Nat} {xs : Nat → Int32} : m_tg (p_P L xs) 143 28 = k_143_28 := (show m_tgl s_143 28 = m_fl (s_143.drop 1) from rfl).trans fl_143_1
theorem tg_143_29 {L : Nat} {xs : Nat → Int32} : m_tg (p_P L xs) 143 29 = k_143_29 := (show m_tgl s_143 29 = m_fl (s_143.drop 2) from rfl).trans fl_143_2
noncomputable def k_144_0 : List Instr := .aload 0 :: .getfield 708 :: .getfield 194 :: .ireturn :: []
theorem fl_144_0 : m_fl (s_144.drop 0) = k_144_0 := rfl
theorem tn_144_0 {L : Nat} {xs : Nat → Int32} : m_tg (p_P L xs) 144 0 = k_144_0 := (show m_tgl s_144 0 = m_fl (s_144.drop 0) from rfl).trans fl_144_0
noncomputable def k_145_0 : List Instr := .aload 0 :: .getfield 708 :: .aload 0 :: .getfield 707 :: .invokevirtual 22 :: .ireturn :: []
theorem fl_145_0 : m_fl (s_145.drop 0) = k_145_0 := rfl
theorem tn_145_0 {L : Nat} {xs : Nat → Int32} : m_tg (p_P L xs) 145 0 = k_145_0 := (show m_tgl s_145 0 = m_fl (s_145.drop 0) from rfl).trans fl_145_0
noncomputable def k_146_25 : List Instr := .aload 0 :: .getfield 709 :: .aload 0 :: .getfield 707 :: .invokevirtual 78 :: .aload 0 :: .iconst 1 :: .putfield 710 :: .return_ :: []
theorem fl_146_1 : m_fl (s_146.drop 1) = k_146_25 := rfl
noncomputable def k_146_0 : List Instr := .aload 0 :: .getfield 709 :: .ifnonnull 25 :: .aload 0 :: .new 10 :: .dup :: .aload 0 :: .getfield 707 :: .getfield 640 :: .invokespecial 77 :: .putfield 709 :: k_146_25
theorem fl_146_0 : m_fl (s_146.drop 0) = k_146_0 := (show m_fl (s_146.drop 0) = [.aload 0, .getfield 709, .ifnonnull 25, .aload 0, .new 10, .dup, .aload 0, .getfield 707, .getfield 640, .invokespecial 77, .putfield 709] ++ m_fl (s_146.drop 1) from rfl).trans (by rw [fl_146_1]; rfl)
theorem tn_146_0 {L : Nat} {xs : Nat → Int32} : m_tg (p_P L xs) 146 0 = k_146_0 := (show m_tgl s_146 0 = m_fl (s_146.drop 0) from rfl).trans fl_146_0
theorem tg_146_25 {L : Nat} {xs : Nat → Int32} : m_tg (p_P L xs) 146 25 = k_146_25 := (show m_tgl s_146 25 = m_fl (s_146.drop 1) from rfl).trans fl_146_1
noncomputable def k_147_16 : List Instr := .aload 0 :: .getfield 707 :: .aload 0 :: .getfield 709 :: .invokevirtual 78 :: .aload 0 :: .getfield 708 :: .invokevirtual 20 :: .iconst 1 :: .ret 0 :: []
theorem fl_147_2 : m_fl (s_147.drop 2) = k_147_16 := rfl
noncomputable def k_147_14 : List Instr := .iconst 0 :: .ret 0 :: k_147_16
theorem fl_147_1 : m_fl (s_147.drop 1) = k_147_14 := (show m_fl (s_147.drop 1) = [.iconst 0, .ret 0] ++ m_fl (s_147.drop 2) from rfl).trans (by rw [fl_147_2]; rfl)
noncomputable def k_147_0 : List Instr := .aload 0 :: .getfield 710 :: .ifCond .eq 14 :: .aload 0 :: .getfield 709 :: .ifnonnull 16 :: k_147_14
theorem fl_147_0 : m_fl (s_147.drop 0) = k_147_0 := (show m_fl (s_147.drop 0) = [.aload 0, .getfield 710, .ifCond .eq 14, .aload 0, .getfield 709, .ifnonnull 16] ++ m_fl (s_147.drop 1) from rfl).trans (by rw [fl_147_1]; rfl)
theorem tn_147_0 {L : Nat} {xs : Nat → Int32} : m_tg (p_P L xs) 147 0 = k_147_0 := (show m_tgl s_147 0 = m_fl (s_147.drop 0) from rfl).trans fl_147_0
theorem tg_147_14 {L : Nat} {xs : Nat → Int32} : m_tg (p_P L xs) 147 14 = k_147_14 := (show m_tgl s_147 14 = m_fl (s_147.drop 1) from rfl).trans fl_147_1
theorem tg_147_16 {L : Nat} {xs : Nat → Int32} : m_tg (p_P L xs) 147 16 = k_147_16 := (show m_tgl s_147 16 = m_fl (s_147.drop 2) from rfl).trans fl_147_2
noncomputable def k_148_111 : List Instr := .ireturn :: []
theorem fl_148_5 : m_fl (s_148.drop 5) = k_148_111 := rfl
noncomputable def k_148_103 : List Instr := .aload 0 :: .aload 2 :: .getfield 387 :: .invokevirtual 149 :: k_148_111
theorem fl_148_4 : m_fl (s_148.drop 4) = k_148_103 := (show m_fl (s_148.drop 4) = [.aload 0, .aload 2, .getfield 387, .invokevirtual 149] ++ m_fl (s_148.drop 5) from rfl).trans (by rw [fl_148_5]; rfl)
noncomputable def k_148_85 : List Instr := .aload 2 :: .getfield 388 :: .ifCond .eq 103 :: .aload 0 :: .aload 2 :: .getfield 387 :: .invokevirtual 150 :: .goto 111 :: k_148_103
theorem fl_148_3 : m_fl (s_148.drop 3) = k_148_85 := (show m_fl (s_148.drop 3) = [.aload 2, .getfield 388, .ifCond .eq 103, .aload 0, .aload 2, .getfield 387, .invokevirtual 150, .goto 111] ++ m_fl (s_148.drop 4) from rfl).trans (by rw [fl_148_4]; rfl)
noncomputable def k_148_29 : List Instr := .new 6 :: .dup :: .aload 0 :: .getfield 704 :: .iload 1 :: .iconst 1 :: .invokespecial 31 :: .astore 2 :: .aload 2 :: .invokevirtual 33 :: .aload 0 :: .iconst 0 :: .putfield 705 :: .aload 0 :: .aload 2 :: .getfield 384 :: .getfield 522 :: .putfield 706 :: .aload 2 :: .getfield 384 :: .getfield 521 :: .ifCond .eq 85 :: .iconst (-1000000000) :: .aload 2 :: .getfield 384 :: .getfield 521 :: .isub :: .ireturn :: k_148_85
theorem fl_148_2 : m_fl (s_148.drop 2) = k_148_29 := (show m_fl (s_148.drop 2) = [.new 6, .dup, .aload 0, .getfield 704, .iload 1, .iconst 1, .invokespecial 31, .astore 2, .aload 2, .invokevirtual 33, .aload 0, .iconst 0, .putfield 705, .aload 0, .aload 2, .getfield 384, .getfield 522, .putfield 706, .aload 2, .getfield 384, .getfield 521, .ifCond .eq 85, .iconst (-1000000000), .aload 2, .getfield 384, .getfield 521, .isub, .ireturn] ++ m_fl (s_148.drop 3) from rfl).trans (by rw [fl_148_3]; rfl)
noncomputable def k_148_19 : List Instr := .invokedynamic 1 :: k_148_29
theorem fl_148_1 : m_fl (s_148.drop 1) = k_148_19 := (show m_fl (s_148.drop 1) = [.invokedynamic 1] ++ m_fl (s_148.drop 2) from rfl).trans (by rw [fl_148_2]; rfl)
noncomputable def k_148_0 : List Instr := .iload 1 :: .iconst 0 :: .iconst 200 :: .invokestatic 151 :: .ifCond .eq 19 :: .iload 1 :: .aload 0 :: .getfield 705 :: .if_icmp .le 29 :: k_148_19
theorem fl_148_0 : m_fl (s_148.drop 0) = k_148_0 := (show m_fl (s_148.drop 0) = [.iload 1, .iconst 0, .iconst 200, .invokestatic 151, .ifCond .eq 19, .iload 1, .aload 0, .getfield 705, .if_icmp .le 29] ++ m_fl (s_148.drop 1) from rfl).trans (by rw [fl_148_1]; rfl)
theorem tn_148_0 {L : Nat} {xs : Nat → Int32} : m_tg (p_P L xs) 148 0 = k_148_0 := (show m_tgl s_148 0 = m_fl (s_148.drop 0) from rfl).trans fl_148_0
theorem tg_148_19 {L : Nat} {xs : Nat → Int32} : m_tg (p_P L xs) 148 19 = k_148_19 := (show m_tgl s_148 19 = m_fl (s_148.drop 1) from rfl).trans fl_148_1
theorem tg_148_29 {L : Nat} {xs : Nat → Int32} : m_tg (p_P L xs) 148 29 = k_148_29 := (show m_tgl s_148 29 = m_fl (s_148.drop 2) from rfl).trans fl_148_2
theorem tg_148_85 {L : Nat} {xs : Nat → Int32} : m_tg (p_P L xs) 148 85 = k_148_85 := (show m_tgl s_148 85 = m_fl (s_148.drop 3) from rfl).trans fl_148_3
theorem tg_148_103 {L : Nat} {xs : Nat → Int32} : m_tg (p_P L xs) 148 103 = k_148_103 := (show m_tgl s_148 103 = m_fl (s_148.drop 4) from rfl).trans fl_148_4
theorem tg_148_111 {L : Nat} {xs : Nat → Int32} : m_tg (p_P L xs) 148 111 = k_148_111 := (show m_tgl s_148 111 = m_fl (s_148.drop 5) from rfl).trans fl_148_5
noncomputable def k_149_45 : List Instr := .iload 3 :: .ireturn :: []
theorem fl_149_3 : m_fl (s_149.drop 3) = k_149_45 := rfl
noncomputable def k_149_39 : List Instr := .iinc 4 1 :: .goto 10 :: k_149_45
theorem fl_149_2 : m_fl (s_149.drop 2) = k_149_39 := (show m_fl (s_149.drop 2) = [.iinc 4 1, .goto 10] ++ m_fl (s_149.drop 3) from rfl).trans (by rw [fl_149_3]; rfl)
noncomputable def k_149_10 : List Instr := .iload 4 :: .aload 0 :: .getfield 707 :: .getfield 642 :: .if_icmp .ge 45 :: .aload 0 :: .getfield 707 :: .iload 4 :: .aload 1 :: .aload 2 :: .invokevirtual 103 :: .ifCond .eq 39 :: .iinc 3 1 :: k_149_39
theorem fl_149_1 : m_fl (s_149.drop 1) = k_149_10 := (show m_fl (s_149.drop 1) = [.iload 4, .aload 0, .getfield 707, .getfield 642, .if_icmp .ge 45, .aload 0, .getfield 707, .iload 4, .aload 1, .aload 2, .invokevirtual 103, .ifCond .eq 39, .iinc 3 1] ++ m_fl (s_149.drop 2) from rfl).trans (by rw [fl_149_2]; rfl)
noncomputable def k_149_0 : List Instr := .iconst 11 :: .newarray .int :: .astore 2 :: .iconst 0 :: .istore 3 :: .iconst 0 :: .istore 4 :: k_149_10
theorem fl_149_0 : m_fl (s_149.drop 0) = k_149_0 := (show m_fl (s_149.drop 0) = [.iconst 11, .newarray .int, .astore 2, .iconst 0, .istore 3, .iconst 0, .istore 4] ++ m_fl (s_149.drop 1) from rfl).trans (by rw [fl_149_1]; rfl)
theorem tn_149_0 {L : Nat} {xs : Nat → Int32} : m_tg (p_P L xs) 149 0 = k_149_0 := (show m_tgl s_149 0 = m_fl (s_149.drop 0) from rfl).trans fl_149_0
theorem tg_149_10 {L : Nat} {xs : Nat → Int32} : m_tg (p_P L xs) 149 10 = k_149_10 := (show m_tgl s_149 10 = m_fl (s_149.drop 1) from rfl).trans fl_149_1
theorem tg_149_39 {L : Nat} {xs : Nat → Int32} : m_tg (p_P L xs) 149 39 = k_149_39 := (show m_tgl s_149 39 = m_fl (s_149.drop 2) from rfl).trans fl_149_2
theorem tg_149_45 {L : Nat} {xs : Nat → Int32} : m_tg (p_P L xs) 149 45 = k_149_45 := (show m_tgl s_149 45 = m_fl (s_149.drop 3) from rfl).trans fl_149_3
noncomputable def k_150_39 : List Instr := .iconst (-1) :: .ireturn :: []
theorem fl_150_3 : m_fl (s_150.drop 3) = k_150_39 := rfl
noncomputable def k_150_33 : List Instr := .iinc 3 1 :: .goto 7 :: k_150_39
theorem fl_150_2 : m_fl (s_150.drop 2) = k_150_33 := (show m_fl (s_150.drop 2) = [.iinc 3 1, .goto 7] ++ m_fl (s_150.drop 3) from rfl).trans (by rw [fl_150_3]; rfl)
noncomputable def k_150_7 : List Instr := .iload 3 :: .aload 0 :: .getfield 707 :: .getfield 642 :: .if_icmp .ge 39 :: .aload 0 :: .getfield 707 :: .iload 3 :: .aload 1 :: .aload 2 :: .invokevirtual 103 :: .ifCond .eq 33 :: .iload 3 :: .ireturn :: k_150_33
theorem fl_150_1 : m_fl (s_150.drop 1) = k_150_7 := (show m_fl (s_150.drop 1) = [.iload 3, .aload 0, .getfield 707, .getfield 642, .if_icmp .ge 39, .aload 0, .getfield 707, .iload 3, .aload 1, .aload 2, .invokevirtual 103, .ifCond .eq 33, .iload 3, .ireturn] ++ m_fl (s_150.drop 2) from rfl).trans (by rw [fl_150_2]; rfl)
noncomputable def k_150_0 : List Instr := .iconst 11 :: .newarray .int :: .astore 2 :: .iconst 0 :: .istore 3 :: k_150_7
theorem fl_150_0 : m_fl (s_150.drop 0) = k_150_0 := (show m_fl (s_150.drop 0) = [.iconst 11, .newarray .int, .astore 2, .iconst 0, .istore 3] ++ m_fl (s_150.drop 1) from rfl).trans (by rw [fl_150_1]; rfl)
theorem tn_150_0 {L : Nat} {xs : Nat → Int32} : m_tg (p_P L xs) 150 0 = k_150_0 := (show m_tgl s_150 0 = m_fl (s_150.drop 0) from rfl).trans fl_150_0
theorem tg_150_7 {L : Nat} {xs : Nat → Int32} : m_tg (p_P L xs) 150 7 = k_150_7 := (show m_tgl s_150 7 = m_fl (s_150.drop 1) from rfl).trans fl_150_1
theorem tg_150_33 {L : Nat} {xs : Nat → Int32} : m_tg (p_P L xs) 150 33 = k_150_33 := (show m_tgl s_150 33 = m_fl (s_150.drop 2) from rfl).trans fl_150_2
theorem tg_150_39 {L : Nat} {xs : Nat → Int32} : m_tg (p_P L xs) 150 39 = k_150_39 := (show m_tgl s_150 39 = m_fl (s_150.drop 3) from rfl).trans fl_150_3
noncomputable def k_151_15 : List Instr := .ret 0 :: []
theorem fl_151_2 : m_fl (s_151.drop 2) = k_151_15 := rfl
noncomputable def k_151_14 : List Instr := .iconst 0 :: k_151_15
theorem fl_151_1 : m_fl (s_151.drop 1) = k_151_14 := (show m_fl (s_151.drop 1) = [.iconst 0] ++ m_fl (s_151.drop 2) from rfl).trans (by rw [fl_151_2]; rfl)
noncomputable def k_151_0 : List Instr := .iload 0 :: .iload 1 :: .if_icmp .lt 14 :: .iload 0 :: .iload 2 :: .if_icmp .gt 14 :: .iconst 1 :: .goto 15 :: k_151_14
theorem fl_151_0 : m_fl (s_151.drop 0) = k_151_0 := (show m_fl (s_151.drop 0) = [.iload 0, .iload 1, .if_icmp .lt 14, .iload 0, .iload 2, .if_icmp .gt 14, .iconst 1, .goto 15] ++ m_fl (s_151.drop 1) from rfl).trans (by rw [fl_151_1]; rfl)
theorem tn_151_0 {L : Nat} {xs : Nat → Int32} : m_tg (p_P L xs) 151 0 = k_151_0 := (show m_tgl s_151 0 = m_fl (s_151.drop 0) from rfl).trans fl_151_0
theorem tg_151_14 {L : Nat} {xs : Nat → Int32} : m_tg (p_P L xs) 151 14 = k_151_14 := (show m_tgl s_151 14 = m_fl (s_151.drop 1) from rfl).trans fl_151_1
theorem tg_151_15 {L : Nat} {xs : Nat → Int32} : m_tg (p_P L xs) 151 15 = k_151_15 := (show m_tgl s_151 15 = m_fl (s_151.drop 2) from rfl).trans fl_151_2
noncomputable def k_152_0 : List Instr := .aload 0 :: .invokespecial 9000 :: .aload 0 :: .iconst 20 :: .newarray .int :: .putfield 769 :: .aload 0 :: .iconst 16 :: .newarray .int :: .putfield 770 :: .aload 0 :: .iconst 16 :: .newarray .int :: .putfield 771 :: .aload 0 :: .iconst 16 :: .newarray .int :: .putfield 772 :: .aload 0 :: .iconst 16 :: .newarray .int :: .putfield 773 :: .aload 0 :: .iconst 16 :: .newarray .int :: .putfield 774 :: .aload 0 :: .iconst 16 :: .newarray .int :: .putfield 775 :: .aload 0 :: .iconst 16 :: .newarray .int :: .putfield 776 :: .aload 0 :: .iconst 2400 :: .newarray .int :: .putfield 777 :: .aload 0 :: .iconst 8 :: .newarray .int :: .putfield 778 :: .aload 0 :: .iconst 8 :: .newarray .int :: .putfield 779 :: .aload 0 :: .iconst 2392 :: .newarray .int :: .putfield 780 :: .aload 0 :: .iconst 2392 :: .newarray .int :: .putfield 781 :: .aload 0 :: .iconst 2392 :: .newarray .int :: .putfield 782 :: .aload 0 :: .iconst 23920 :: .newarray .int :: .putfield 783 :: .aload 0 :: .iconst 900 :: .newarray .int :: .putfield 786 :: .aload 0 :: .iconst (-1) :: .putfield 795 :: .aload 0 :: .iconst 900 :: .newarray .int :: .putfield 796 :: .aload 0 :: .iconst 900 :: .newarray .int :: .putfield 797 :: .aload 0 :: .iconst 200 :: .newarray .int :: .putfield 798 :: .aload 0 :: .invokevirtual 156 :: .aload 0 :: .invokevirtual 158 :: .return_ :: []
theorem fl_152_0 : m_fl (s_152.drop 0) = k_152_0 := rfl
theorem tn_152_0 {L : Nat} {xs : Nat → Int32} : m_tg (p_P L xs) 152 0 = k_152_0 := (show m_tgl s_152 0 = m_fl (s_152.drop 0) from rfl).trans fl_152_0
noncomputable def k_153_18 : List Instr := .ret 0 :: []
theorem fl_153_2 : m_fl (s_153.drop 2) = k_153_18 := rfl
noncomputable def k_153_17 : List Instr := .iconst 0 :: k_153_18
theorem fl_153_1 : m_fl (s_153.drop 1) = k_153_17 := (show m_fl (s_153.drop 1) = [.iconst 0] ++ m_fl (s_153.drop 2) from rfl).trans (by rw [fl_153_2]; rfl)
noncomputable def k_153_0 : List Instr := .lload 0 :: .lload 2 :: .lcmp :: .ifCond .lt 17 :: .lload 0 :: .lload 4 :: .lcmp :: .ifCond .gt 17 :: .iconst 1 :: .goto 18 :: k_153_17
theorem fl_153_0 : m_fl (s_153.drop 0) = k_153_0 := (show m_fl (s_153.drop 0) = [.lload 0, .lload 2, .lcmp, .ifCond .lt 17, .lload 0, .lload 4, .lcmp, .ifCond .gt 17, .iconst 1, .goto 18] ++ m_fl (s_153.drop 1) from rfl).trans (by rw [fl_153_1]; rfl)
theorem tn_153_0 {L : Nat} {xs : Nat → Int32} : m_tg (p_P L xs) 153 0 = k_153_0 := (show m_tgl s_153 0 = m_fl (s_153.drop 0) from rfl).trans fl_153_0
theorem tg_153_17 {L : Nat} {xs : Nat → Int32} : m_tg (p_P L xs) 153 17 = k_153_17 := (show m_tgl s_153 17 = m_fl (s_153.drop 1) from rfl).trans fl_153_1
theorem tg_153_18 {L : Nat} {xs : Nat → Int32} : m_tg (p_P L xs) 153 18 = k_153_18 := (show m_tgl s_153 18 = m_fl (s_153.drop 2) from rfl).trans fl_153_2
noncomputable def k_154_6 : List Instr := .aload 0 :: .iload 2 :: .putfield 768 :: .iconst 1 :: .ret 0 :: []
theorem fl_154_1 : m_fl (s_154.drop 1) = k_154_6 := rfl
noncomputable def k_154_0 : List Instr := .iload 1 :: .ifCond .eq 6 :: .iconst 0 :: .ret 0 :: k_154_6
theorem fl_154_0 : m_fl (s_154.drop 0) = k_154_0 := (show m_fl (s_154.drop 0) = [.iload 1, .ifCond .eq 6, .iconst 0, .ret 0] ++ m_fl (s_154.drop 1) from rfl).trans (by rw [fl_154_1]; rfl)
theorem tn_154_0 {L : Nat} {xs : Nat → Int32} : m_tg (p_P L xs) 154 0 = k_154_0 := (show m_tgl s_154 0 = m_fl (s_154.drop 0) from rfl).trans fl_154_0
theorem tg_154_6 {L : Nat} {xs : Nat → Int32} : m_tg (p_P L xs) 154 6 = k_154_6 := (show m_tgl s_154 6 = m_fl (s_154.drop 1) from rfl).trans fl_154_1
noncomputable def k_155_10 : List Instr := .ireturn :: []
theorem fl_155_2 : m_fl (s_155.drop 2) = k_155_10 := rfl
noncomputable def k_155_9 : List Instr := .iload 1 :: k_155_10
theorem fl_155_1 : m_fl (s_155.drop 1) = k_155_9 := (show m_fl (s_155.drop 1) = [.iload 1] ++ m_fl (s_155.drop 2) from rfl).trans (by rw [fl_155_2]; rfl)
noncomputable def k_155_0 : List Instr := .iload 0 :: .iload 1 :: .if_icmp .ge 9 :: .iload 0 :: .goto 10 :: k_155_9
theorem fl_155_0 : m_fl (s_155.drop 0) = k_155_0 := (show m_fl (s_155.drop 0) = [.iload 0, .iload 1, .if_icmp .ge 9, .iload 0, .goto 10] ++ m_fl (s_155.drop 1) from rfl).trans (by rw [fl_155_1]; rfl)
theorem tn_155_0 {L : Nat} {xs : Nat → Int32} : m_tg (p_P L xs) 155 0 = k_155_0 := (show m_tgl s_155 0 = m_fl (s_155.drop 0) from rfl).trans fl_155_0
theorem tg_155_9 {L : Nat} {xs : Nat → Int32} : m_tg (p_P L xs) 155 9 = k_155_9 := (show m_tgl s_155 9 = m_fl (s_155.drop 1) from rfl).trans fl_155_1
theorem tg_155_10 {L : Nat} {xs : Nat → Int32} : m_tg (p_P L xs) 155 10 = k_155_10 := (show m_tgl s_155 10 = m_fl (s_155.drop 2) from rfl).trans fl_155_2
noncomputable def k_156_24 : List Instr := .aload 0 :: .getfield 769 :: .iconst 10 :: .iconst 1 :: .iastore :: .aload 0 :: .getfield 769 :: .iconst 12 :: .iconst 2 :: .iastore :: .aload 0 :: .getfield 769 :: .iconst 13 :: .iconst 32 :: .iastore :: .aload 0 :: .getfield 769 :: .iconst 14 :: .iconst 20 :: .iastore :: .aload 0 :: .getfield 769 :: .iconst 15 :: .iconst 5 :: .iastore :: .aload 0 :: .getfield 769 :: .iconst 16 :: .iconst 3 :: .iastore :: .aload 0 :: .getfield 769 :: .iconst 17 :: .iconst 4 :: .iastore :: .aload 0 :: .getfield 769 :: .iconst 18 :: .iconst 1 :: .iastore :: .return_ :: []
theorem fl_156_2 : m_fl (s_156.drop 2) = k_156_24 := rfl
noncomputable def k_156_2 : List Instr := .iload 1 :: .iconst 10 :: .if_icmp .ge 24 :: .aload 0 :: .getfield 769 :: .iconst 10 :: .iload 1 :: .iadd :: .iconst 0 :: .iastore :: .iinc 1 1 :: .goto 2 :: k_156_24
theorem fl_156_1 : m_fl (s_156.drop 1) = k_156_2 := (show m_fl (s_156.drop 1) = [.iload 1, .iconst 10, .if_icmp .ge 24, .aload 0, .getfield 769, .iconst 10, .iload 1, .iadd, .iconst 0, .iastore, .iinc 1 1, .goto 2] ++ m_fl (s_156.drop 2) from rfl).trans (by rw [fl_156_2]; rfl)
noncomputable def k_156_0 : List Instr := .iconst 0 :: .istore 1 :: k_156_2
theorem fl_156_0 : m_fl (s_156.drop 0) = k_156_0 := (show m_fl (s_156.drop 0) = [.iconst 0, .istore 1] ++ m_fl (s_156.drop 1) from rfl).trans (by rw [fl_156_1]; rfl)
theorem tn_156_0 {L : Nat} {xs : Nat → Int32} : m_tg (p_P L xs) 156 0 = k_156_0 := (show m_tgl s_156 0 = m_fl (s_156.drop 0) from rfl).trans fl_156_0
theorem tg_156_2 {L : Nat} {xs : Nat → Int32} : m_tg (p_P L xs) 156 2 = k_156_2 := (show m_tgl s_156 2 = m_fl (s_156.drop 1) from rfl).trans fl_156_1
theorem tg_156_24 {L : Nat} {xs : Nat → Int32} : m_tg (p_P L xs) 156 24 = k_156_24 := (show m_tgl s_156 24 = m_fl (s_156.drop 2) from rfl).trans fl_156_2
noncomputable def k_157_26 : List Instr := .return_ :: []
theorem fl_157_2 : m_fl (s_157.drop 2) = k_157_26 := rfl
noncomputable def k_157_7 : List Instr := .iload 2 :: .iload 1 :: .if_icmp .ge 26 :: .aload 0 :: .iload 2 :: .aload 0 :: .iload 1 :: .iload 2 :: .iadd :: .iaload :: .iastore :: .iinc 2 1 :: .goto 7 :: k_157_26
theorem fl_157_1 : m_fl (s_157.drop 1) = k_157_7 := (show m_fl (s_157.drop 1) = [.iload 2, .iload 1, .if_icmp .ge 26, .aload 0, .iload 2, .aload 0, .iload 1, .iload 2, .iadd, .iaload, .iastore, .iinc 2 1, .goto 7] ++ m_fl (s_157.drop 2) from rfl).trans (by rw [fl_157_2]; rfl)
noncomputable def k_157_0 : List Instr := .aload 0 :: .ldc_w 100 :: .iconst 2 :: .idiv :: .istore 1 :: .iconst 0 :: .istore 2 :: k_157_7
theorem fl_157_0 : m_fl (s_157.drop 0) = k_157_0 := (show m_fl (s_157.drop 0) = [.aload 0, .ldc_w 100, .iconst 2, .idiv, .istore 1, .iconst 0, .istore 2] ++ m_fl (s_157.drop 1) from rfl).trans (by rw [fl_157_1]; rfl)
theorem tn_157_0 {L : Nat} {xs : Nat → Int32} : m_tg (p_P L xs) 157 0 = k_157_0 := (show m_tgl s_157 0 = m_fl (s_157.drop 0) from rfl).trans fl_157_0
theorem tg_157_7 {L : Nat} {xs : Nat → Int32} : m_tg (p_P L xs) 157 7 = k_157_7 := (show m_tgl s_157 7 = m_fl (s_157.drop 1) from rfl).trans fl_157_1
theorem tg_157_26 {L : Nat} {xs : Nat → Int32} : m_tg (p_P L xs) 157 26 = k_157_26 := (show m_tgl s_157 26 = m_fl (s_157.drop 2) from rfl).trans fl_157_2
noncomputable def k_158_118 : List Instr := .aload 0 :: .iconst 0 :: .putfield 785 :: .aload 0 :: .iconst 0 :: .putfield 784 :: .return_ :: []
theorem fl_158_4 : m_fl (s_158.drop 4) = k_158_118 := rfl
noncomputable def k_158_87 : List Instr := .iload 1 :: .iconst 4 :: .if_icmp .ge 118 :: .aload 0 :: .getfield 780 :: .iconst 28 :: .iload 1 :: .iadd :: .iconst (-1) :: .iastore :: .aload 0 :: .getfield 780 :: .iconst 32 :: .iload 1 :: .iadd :: .iconst (-1) :: .iastore :: .iinc 1 1 :: .goto 87 :: k_158_118
theorem fl_158_3 : m_fl (s_158.drop 3) = k_158_87 := (show m_fl (s_158.drop 3) = [.iload 1, .iconst 4, .if_icmp .ge 118, .aload 0, .getfield 780, .iconst 28, .iload 1, .iadd, .iconst (-1), .iastore, .aload 0, .getfield 780, .iconst 32, .iload 1, .iadd, .iconst (-1), .iastore, .iinc 1 1, .goto 87] ++ m_fl (s_158.drop 4) from rfl).trans (by rw [fl_158_4]; rfl)
noncomputable def k_158_85 : List Instr := .iconst 0 :: .istore 1 :: k_158_87
theorem fl_158_2 : m_fl (s_158.drop 2) = k_158_85 := (show m_fl (s_158.drop 2) = [.iconst 0, .istore 1] ++ m_fl (s_158.drop 3) from rfl).trans (by rw [fl_158_3]; rfl)
noncomputable def k_158_65 : List Instr := .iload 1 :: .iconst 2392 :: .if_icmp .ge 85 :: .aload 0 :: .getfield 780 :: .iload 1 :: .iconst 0 :: .iastore :: .iinc 1 1 :: .goto 65 :: k_158_85
theorem fl_158_1 : m_fl (s_158.drop 1) = k_158_65 := (show m_fl (s_158.drop 1) = [.iload 1, .iconst 2392, .if_icmp .ge 85, .aload 0, .getfield 780, .iload 1, .iconst 0, .iastore, .iinc 1 1, .goto 65] ++ m_fl (s_158.drop 2) from rfl).trans (by rw [fl_158_2]; rfl)
noncomputable def k_158_0 : List Instr := .aload 0 :: .getfield 769 :: .invokestatic 157 :: .aload 0 :: .getfield 770 :: .invokestatic 157 :: .aload 0 :: .getfield 771 :: .invokestatic 157 :: .aload 0 :: .getfield 776 :: .invokestatic 157 :: .aload 0 :: .getfield 772 :: .invokestatic 157 :: .aload 0 :: .getfield 773 :: .invokestatic 157 :: .aload 0 :: .getfield 774 :: .invokestatic 157 :: .aload 0 :: .getfield 775 :: .invokestatic 157 :: .aload 0 :: .getfield 777 :: .invokestatic 157 :: .iconst 0 :: .istore 1 :: k_158_65
theorem fl_158_0 : m_fl (s_158.drop 0) = k_158_0 := (show m_fl (s_158.drop 0) = [.aload 0, .getfield 769, .invokestatic 157, .aload 0, .getfield 770, .invokestatic 157, .aload 0, .getfield 771, .invokestatic 157, .aload 0, .getfield 776, .invokestatic 157, .aload 0, .getfield 772, .invokestatic 157, .aload 0, .getfield 773, .invokestatic 157, .aload 0, .getfield 774, .invokestatic 157, .aload 0, .getfield 775, .invokestatic 157, .aload 0, .getfield 777, .invokestatic 157, .iconst 0, .istore 1] ++ m_fl (s_158.drop 1) from rfl).trans (by rw [fl_158_1]; rfl)
theorem tn_158_0 {L : Nat} {xs : Nat → Int32} : m_tg (p_P L xs) 158 0 = k_158_0 := (show m_tgl s_158 0 = m_fl (s_158.drop 0) from rfl).trans fl_158_0
theorem tg_158_65 {L : Nat} {xs : Nat → Int32} : m_tg (p_P L xs) 158 65 = k_158_65 := (show m_tgl s_158 65 = m_fl (s_158.drop 1) from rfl).trans fl_158_1
theorem tg_158_85 {L : Nat} {xs : Nat → Int32} : m_tg (p_P L xs) 158 85 = k_158_85 := (show m_tgl s_158 85 = m_fl (s_158.drop 2) from rfl).trans fl_158_2
theorem tg_158_87 {L : Nat} {xs : Nat → Int32} : m_tg (p_P L xs) 158 87 = k_158_87 := (show m_tgl s_158 87 = m_fl (s_158.drop 3) from rfl).trans fl_158_3
theorem tg_158_118 {L : Nat} {xs : Nat → Int32} : m_tg (p_P L xs) 158 118 = k_158_118 := (show m_tgl s_158 118 = m_fl (s_158.drop 4) from rfl).trans fl_158_4
noncomputable def k_159_21 : List Instr := .return_ :: []
theorem fl_159_2 : m_fl (s_159.drop 2) = k_159_21 := rfl
noncomputable def k_159_2 : List Instr := .iload 2 :: .iconst 2392 :: .if_icmp .ge 21 :: .aload 1 :: .iload 2 :: .aload 0 :: .iload 2 :: .iaload :: .iastore :: .iinc 2 1 :: .goto 2 :: k_159_21
theorem fl_159_1 : m_fl (s_159.drop 1) = k_159_2 := (show m_fl (s_159.drop 1) = [.iload 2, .iconst 2392, .if_icmp .ge 21, .aload 1, .iload 2, .aload 0, .iload 2, .iaload, .iastore, .iinc 2 1, .goto 2] ++ m_fl (s_159.drop 2) from rfl).trans (by rw [fl_159_2]; rfl)
noncomputable def k_159_0 : List Instr := .iconst 0 :: .istore 2 :: k_159_2
theorem fl_159_0 : m_fl (s_159.drop 0) = k_159_0 := (show m_fl (s_159.drop 0) = [.iconst 0, .istore 2] ++ m_fl (s_159.drop 1) from rfl).trans (by rw [fl_159_1]; rfl)
theorem tn_159_0 {L : Nat} {xs : Nat → Int32} : m_tg (p_P L xs) 159 0 = k_159_0 := (show m_tgl s_159 0 = m_fl (s_159.drop 0) from rfl).trans fl_159_0
theorem tg_159_2 {L : Nat} {xs : Nat → Int32} : m_tg (p_P L xs) 159 2 = k_159_2 := (show m_tgl s_159 2 = m_fl (s_159.drop 1) from rfl).trans fl_159_1
theorem tg_159_21 {L : Nat} {xs : Nat → Int32} : m_tg (p_P L xs) 159 21 = k_159_21 := (show m_tgl s_159 21 = m_fl (s_159.drop 2) from rfl).trans fl_159_2
noncomputable def k_160_39 : List Instr := .return_ :: []
theorem fl_160_2 : m_fl (s_160.drop 2) = k_160_39 := rfl
noncomputable def k_160_3 : List Instr := .iload 2 :: .ifCond .lt 39 :: .aload 0 :: .getfield 786 :: .aload 0 :: .getfield 787 :: .iload 1 :: .iload 2 :: .ishr :: .iconst 255 :: .iand :: .iastore :: .aload 0 :: .dup :: .getfield 787 :: .iconst 1 :: .iadd :: .putfield 787 :: .iinc 2 (-8) :: .goto 3 :: k_160_39
theorem fl_160_1 : m_fl (s_160.drop 1) = k_160_3 := (show m_fl (s_160.drop 1) = [.iload 2, .ifCond .lt 39, .aload 0, .getfield 786, .aload 0, .getfield 787, .iload 1, .iload 2, .ishr, .iconst 255, .iand, .iastore, .aload 0, .dup, .getfield 787, .iconst 1, .iadd, .putfield 787, .iinc 2 (-8), .goto 3] ++ m_fl (s_160.drop 2) from rfl).trans (by rw [fl_160_2]; rfl)
noncomputable def k_160_0 : List Instr := .iconst 24 :: .istore 2 :: k_160_3
theorem fl_160_0 : m_fl (s_160.drop 0) = k_160_0 := (show m_fl (s_160.drop 0) = [.iconst 24, .istore 2] ++ m_fl (s_160.drop 1) from rfl).trans (by rw [fl_160_1]; rfl)
theorem tn_160_0 {L : Nat} {xs : Nat → Int32} : m_tg (p_P L xs) 160 0 = k_160_0 := (show m_tgl s_160 0 = m_fl (s_160.drop 0) from rfl).trans fl_160_0
theorem tg_160_3 {L : Nat} {xs : Nat → Int32} : m_tg (p_P L xs) 160 3 = k_160_3 := (show m_tgl s_160 3 = m_fl (s_160.drop 1) from rfl).trans fl_160_1
theorem tg_160_39 {L : Nat} {xs : Nat → Int32} : m_tg (p_P L xs) 160 39 = k_160_39 := (show m_tgl s_160 39 = m_fl (s_160.drop 2) from rfl).trans fl_160_2
noncomputable def k_161_20 : List Instr := .aload 0 :: .iload 1 :: .invokevirtual 160 :: .aload 0 :: .iload 2 :: .invokevirtual 160 :: .aload 0 :: .iload 3 :: .invokevirtual 160 :: .aload 0 :: .iload 4 :: .invokevirtual 160 :: .aload 0 :: .iload 5 :: .invokevirtual 160 :: .aload 0 :: .getfield 787 :: .ireturn :: []
theorem fl_161_1 : m_fl (s_161.drop 1) = k_161_20 := rfl
noncomputable def k_161_0 : List Instr := .aload 0 :: .iconst 0 :: .putfield 768 :: .aload 0 :: .getfield 787 :: .iconst 20 :: .iadd :: .iconst 900 :: .if_icmp .le 20 :: .iconst (-1) :: .ireturn :: k_161_20
theorem fl_161_0 : m_fl (s_161.drop 0) = k_161_0 := (show m_fl (s_161.drop 0) = [.aload 0, .iconst 0, .putfield 768, .aload 0, .getfield 787, .iconst 20, .iadd, .iconst 900, .if_icmp .le 20, .iconst (-1), .ireturn] ++ m_fl (s_161.drop 1) from rfl).trans (by rw [fl_161_1]; rfl)
theorem tn_161_0 {L : Nat} {xs : Nat → Int32} : m_tg (p_P L xs) 161 0 = k_161_0 := (show m_tgl s_161 0 = m_fl (s_161.drop 0) from rfl).trans fl_161_0
theorem tg_161_20 {L : Nat} {xs : Nat → Int32} : m_tg (p_P L xs) 161 20 = k_161_20 := (show m_tgl s_161 20 = m_fl (s_161.drop 1) from rfl).trans fl_161_1
noncomputable def k_162_0 : List Instr := .aload 0 :: .iconst 0 :: .putfield 768 :: .aload 0 :: .getfield 795 :: .ireturn :: []
theorem fl_162_0 : m_fl (s_162.drop 0) = k_162_0 := rfl
theorem tn_162_0 {L : Nat} {xs : Nat → Int32} : m_tg (p_P L xs) 162 0 = k_162_0 := (show m_tgl s_162 0 = m_fl (s_162.drop 0) from rfl).trans fl_162_0
noncomputable def k_163_18 : List Instr := .ireturn :: []
theorem fl_163_2 : m_fl (s_163.drop 2) = k_163_18 := rfl
noncomputable def k_163_17 : List Instr := .iconst (-1) :: k_163_18
theorem fl_163_1 : m_fl (s_163.drop 1) = k_163_17 := (show m_fl (s_163.drop 1) = [.iconst (-1)] ++ m_fl (s_163.drop 2) from rfl).trans (by rw [fl_163_2]; rfl)
noncomputable def k_163_0 : List Instr := .iload 1 :: .aload 0 :: .getfield 788 :: .if_icmp .ge 17 :: .aload 0 :: .getfield 786 :: .iload 1 :: .iaload :: .goto 18 :: k_163_17
theorem fl_163_0 : m_fl (s_163.drop 0) = k_163_0 := (show m_fl (s_163.drop 0) = [.iload 1, .aload 0, .getfield 788, .if_icmp .ge 17, .aload 0, .getfield 786, .iload 1, .iaload, .goto 18] ++ m_fl (s_163.drop 1) from rfl).trans (by rw [fl_163_1]; rfl)
theorem tn_163_0 {L : Nat} {xs : Nat → Int32} : m_tg (p_P L xs) 163 0 = k_163_0 := (show m_tgl s_163 0 = m_fl (s_163.drop 0) from rfl).trans fl_163_0
theorem tg_163_17 {L : Nat} {xs : Nat → Int32} : m_tg (p_P L xs) 163 17 = k_163_17 := (show m_tgl s_163 17 = m_fl (s_163.drop 1) from rfl).trans fl_163_1
theorem tg_163_18 {L : Nat} {xs : Nat → Int32} : m_tg (p_P L xs) 163 18 = k_163_18 := (show m_tgl s_163 18 = m_fl (s_163.drop 2) from rfl).trans fl_163_2
noncomputable def k_164_17 : List Instr := .ret 0 :: []
theorem fl_164_2 : m_fl (s_164.drop 2) = k_164_17 := rfl
noncomputable def k_164_16 : List Instr := .iconst 0 :: k_164_17
theorem fl_164_1 : m_fl (s_164.drop 1) = k_164_16 := (show m_fl (s_164.drop 1) = [.iconst 0] ++ m_fl (s_164.drop 2) from rfl).trans (by rw [fl_164_2]; rfl)
noncomputable def k_164_0 : List Instr := .iload 0 :: .iconst 97 :: .if_icmp .lt 16 :: .iload 0 :: .iconst 122 :: .if_icmp .gt 16 :: .iconst 1 :: .goto 17 :: k_164_16
theorem fl_164_0 : m_fl (s_164.drop 0) = k_164_0 := (show m_fl (s_164.drop 0) = [.iload 0, .iconst 97, .if_icmp .lt 16, .iload 0, .iconst 122, .if_icmp .gt 16, .iconst 1, .goto 17] ++ m_fl (s_164.drop 1) from rfl).trans (by rw [fl_164_1]; rfl)
theorem tn_164_0 {L : Nat} {xs : Nat → Int32} : m_tg (p_P L xs) 164 0 = k_164_0 := (show m_tgl s_164 0 = m_fl (s_164.drop 0) from rfl).trans fl_164_0
theorem tg_164_16 {L : Nat} {xs : Nat → Int32} : m_tg (p_P L xs) 164 16 = k_164_16 := (show m_tgl s_164 16 = m_fl (s_164.drop 1) from rfl).trans fl_164_1
theorem tg_164_17 {L : Nat} {xs : Nat → Int32} : m_tg (p_P L xs) 164 17 = k_164_17 := (show m_tgl s_164 17 = m_fl (s_164.drop 2) from rfl).trans fl_164_2
noncomputable def k_165_17 : List Instr := .ret 0 :: []
theorem fl_165_2 : m_fl (s_165.drop 2) = k_165_17 := rfl
noncomputable def k_165_16 : List Instr := .iconst 0 :: k_165_17
theorem fl_165_1 : m_fl (s_165.drop 1) = k_165_16 := (show m_fl (s_165.drop 1) = [.iconst 0] ++ m_fl (s_165.drop 2) from rfl).trans (by rw [fl_165_2]; rfl)
noncomputable def k_165_0 : List Instr := .iload 0 :: .iconst 48 :: .if_icmp .lt 16 :: .iload 0 :: .iconst 57 :: .if_icmp .gt 16 :: .iconst 1 :: .goto 17 :: k_165_16
theorem fl_165_0 : m_fl (s_165.drop 0) = k_165_0 := (show m_fl (s_165.drop 0) = [.iload 0, .iconst 48, .if_icmp .lt 16, .iload 0, .iconst 57, .if_icmp .gt 16, .iconst 1, .goto 17] ++ m_fl (s_165.drop 1) from rfl).trans (by rw [fl_165_1]; rfl)
theorem tn_165_0 {L : Nat} {xs : Nat → Int32} : m_tg (p_P L xs) 165 0 = k_165_0 := (show m_tgl s_165 0 = m_fl (s_165.drop 0) from rfl).trans fl_165_0
theorem tg_165_16 {L : Nat} {xs : Nat → Int32} : m_tg (p_P L xs) 165 16 = k_165_16 := (show m_tgl s_165 16 = m_fl (s_165.drop 1) from rfl).trans fl_165_1
theorem tg_165_17 {L : Nat} {xs : Nat → Int32} : m_tg (p_P L xs) 165 17 = k_165_17 := (show m_tgl s_165 17 = m_fl (s_165.drop 2) from rfl).trans fl_165_2
noncomputable def k_166_73 : List Instr := .aload 0 :: .iconst 1 :: .putfield 791 :: .return_ :: []
theorem fl_166_3 : m_fl (s_166.drop 3) = k_166_73 := rfl
noncomputable def k_166_60 : List Instr := .aload 0 :: .dup :: .getfield 789 :: .iconst 1 :: .iadd :: .putfield 789 :: .goto 5 :: k_166_73
theorem fl_166_2 : m_fl (s_166.drop 2) = k_166_60 := (show m_fl (s_166.drop 2) = [.aload 0, .dup, .getfield 789, .iconst 1, .iadd, .putfield 789, .goto 5] ++ m_fl (s_166.drop 3) from rfl).trans (by rw [fl_166_3]; rfl)
noncomputable def k_166_5 : List Instr := .aload 0 :: .aload 0 :: .getfield 789 :: .invokevirtual 163 :: .invokestatic 164 :: .ifCond .eq 73 :: .aload 0 :: .getfield 789 :: .aload 0 :: .getfield 790 :: .isub :: .iconst 10 :: .if_icmp .ge 60 :: .aload 0 :: .ldc2_w 27 :: .aload 0 :: .getfield 793 :: .lmul :: .aload 0 :: .getfield 786 :: .aload 0 :: .getfield 789 :: .iaload :: .i2l :: .ladd :: .ldc2_w 96 :: .lsub :: .putfield 793 :: k_166_60
theorem fl_166_1 : m_fl (s_166.drop 1) = k_166_5 := (show m_fl (s_166.drop 1) = [.aload 0, .aload 0, .getfield 789, .invokevirtual 163, .invokestatic 164, .ifCond .eq 73, .aload 0, .getfield 789, .aload 0, .getfield 790, .isub, .iconst 10, .if_icmp .ge 60, .aload 0, .ldc2_w 27, .aload 0, .getfield 793, .lmul, .aload 0, .getfield 786, .aload 0, .getfield 789, .iaload, .i2l, .ladd, .ldc2_w 96, .lsub, .putfield 793] ++ m_fl (s_166.drop 2) from rfl).trans (by rw [fl_166_2]; rfl)
noncomputable def k_166_0 : List Instr := .aload 0 :: .ldc2_w 0 :: .putfield 793 :: k_166_5
theorem fl_166_0 : m_fl (s_166.drop 0) = k_166_0 := (show m_fl (s_166.drop 0) = [.aload 0, .ldc2_w 0, .putfield 793] ++ m_fl (s_166.drop 1) from rfl).trans (by rw [fl_166_1]; rfl)
theorem tn_166_0 {L : Nat} {xs : Nat → Int32} : m_tg (p_P L xs) 166 0 = k_166_0 := (show m_tgl s_166 0 = m_fl (s_166.drop 0) from rfl).trans fl_166_0
theorem tg_166_5 {L : Nat} {xs : Nat → Int32} : m_tg (p_P L xs) 166 5 = k_166_5 := (show m_tgl s_166 5 = m_fl (s_166.drop 1) from rfl).trans fl_166_1
theorem tg_166_60 {L : Nat} {xs : Nat → Int32} : m_tg (p_P L xs) 166 60 = k_166_60 := (show m_tgl s_166 60 = m_fl (s_166.drop 2) from rfl).trans fl_166_2
theorem tg_166_73 {L : Nat} {xs : Nat → Int32} : m_tg (p_P L xs) 166 73 = k_166_73 := (show m_tgl s_166 73 = m_fl (s_166.drop 3) from rfl).trans fl_166_3
noncomputable def k_167_70 : List Instr := .aload 0 :: .iconst 2 :: .putfield 791 :: .return_ :: []
theorem fl_167_4 : m_fl (s_167.drop 4) = k_167_70 := rfl
noncomputable def k_167_54 : List Instr := .putfield 792 :: .aload 0 :: .dup :: .getfield 789 :: .iconst 1 :: .iadd :: .putfield 789 :: .goto 5 :: k_167_70
theorem fl_167_3 : m_fl (s_167.drop 3) = k_167_54 := (show m_fl (s_167.drop 3) = [.putfield 792, .aload 0, .dup, .getfield 789, .iconst 1, .iadd, .putfield 789, .goto 5] ++ m_fl (s_167.drop 4) from rfl).trans (by rw [fl_167_4]; rfl)
noncomputable def k_167_34 : List Instr := .iconst 10 :: .aload 0 :: .getfield 792 :: .imul :: .aload 0 :: .getfield 786 :: .aload 0 :: .getfield 789 :: .iaload :: .iadd :: .iconst 48 :: .isub :: k_167_54
theorem fl_167_2 : m_fl (s_167.drop 2) = k_167_34 := (show m_fl (s_167.drop 2) = [.iconst 10, .aload 0, .getfield 792, .imul, .aload 0, .getfield 786, .aload 0, .getfield 789, .iaload, .iadd, .iconst 48, .isub] ++ m_fl (s_167.drop 3) from rfl).trans (by rw [fl_167_3]; rfl)
noncomputable def k_167_5 : List Instr := .aload 0 :: .aload 0 :: .getfield 789 :: .invokevirtual 163 :: .invokestatic 165 :: .ifCond .eq 70 :: .aload 0 :: .aload 0 :: .getfield 792 :: .iconst (99999) :: .if_icmp .le 34 :: .iconst (1000000) :: .goto 54 :: k_167_34
theorem fl_167_1 : m_fl (s_167.drop 1) = k_167_5 := (show m_fl (s_167.drop 1) = [.aload 0, .aload 0, .getfield 789, .invokevirtual 163, .invokestatic 165, .ifCond .eq 70, .aload 0, .aload 0, .getfield 792, .iconst (99999), .if_icmp .le 34, .iconst (1000000), .goto 54] ++ m_fl (s_167.drop 2) from rfl).trans (by rw [fl_167_2]; rfl)
noncomputable def k_167_0 : List Instr := .aload 0 :: .iconst 0 :: .putfield 792 :: k_167_5
theorem fl_167_0 : m_fl (s_167.drop 0) = k_167_0 := (show m_fl (s_167.drop 0) = [.aload 0, .iconst 0, .putfield 792] ++ m_fl (s_167.drop 1) from rfl).trans (by rw [fl_167_1]; rfl)
theorem tn_167_0 {L : Nat} {xs : Nat → Int32} : m_tg (p_P L xs) 167 0 = k_167_0 := (show m_tgl s_167 0 = m_fl (s_167.drop 0) from rfl).trans fl_167_0
theorem tg_167_5 {L : Nat} {xs : Nat → Int32} : m_tg (p_P L xs) 167 5 = k_167_5 := (show m_tgl s_167 5 = m_fl (s_167.drop 1) from rfl).trans fl_167_1
theorem tg_167_34 {L : Nat} {xs : Nat → Int32} : m_tg (p_P L xs) 167 34 = k_167_34 := (show m_tgl s_167 34 = m_fl (s_167.drop 2) from rfl).trans fl_167_2
theorem tg_167_54 {L : Nat} {xs : Nat → Int32} : m_tg (p_P L xs) 167 54 = k_167_54 := (show m_tgl s_167 54 = m_fl (s_167.drop 3) from rfl).trans fl_167_3
theorem tg_167_70 {L : Nat} {xs : Nat → Int32} : m_tg (p_P L xs) 167 70 = k_167_70 := (show m_tgl s_167 70 = m_fl (s_167.drop 4) from rfl).trans fl_167_4
noncomputable def k_168_125 : List Instr := .return_ :: []
theorem fl_168_6 : m_fl (s_168.drop 6) = k_168_125 := rfl
noncomputable def k_168_110 : List Instr := .aload 0 :: .iconst 3 :: .putfield 791 :: .aload 0 :: .dup :: .getfield 789 :: .iconst 1 :: .iadd :: .putfield 789 :: k_168_125
theorem fl_168_5 : m_fl (s_168.drop 5) = k_168_110 := (show m_fl (s_168.drop 5) = [.aload 0, .iconst 3, .putfield 791, .aload 0, .dup, .getfield 789, .iconst 1, .iadd, .putfield 789] ++ m_fl (s_168.drop 6) from rfl).trans (by rw [fl_168_6]; rfl)
noncomputable def k_168_88 : List Instr := .aload 0 :: .getfield 786 :: .aload 0 :: .getfield 789 :: .iaload :: .invokestatic 165 :: .ifCond .eq 110 :: .aload 0 :: .invokevirtual 167 :: .goto 125 :: k_168_110
theorem fl_168_4 : m_fl (s_168.drop 4) = k_168_88 := (show m_fl (s_168.drop 4) = [.aload 0, .getfield 786, .aload 0, .getfield 789, .iaload, .invokestatic 165, .ifCond .eq 110, .aload 0, .invokevirtual 167, .goto 125] ++ m_fl (s_168.drop 5) from rfl).trans (by rw [fl_168_5]; rfl)
noncomputable def k_168_66 : List Instr := .aload 0 :: .getfield 786 :: .aload 0 :: .getfield 789 :: .iaload :: .invokestatic 164 :: .ifCond .eq 88 :: .aload 0 :: .invokevirtual 166 :: .goto 125 :: k_168_88
theorem fl_168_3 : m_fl (s_168.drop 3) = k_168_66 := (show m_fl (s_168.drop 3) = [.aload 0, .getfield 786, .aload 0, .getfield 789, .iaload, .invokestatic 164, .ifCond .eq 88, .aload 0, .invokevirtual 166, .goto 125] ++ m_fl (s_168.drop 4) from rfl).trans (by rw [fl_168_4]; rfl)
noncomputable def k_168_39 : List Instr := .aload 0 :: .aload 0 :: .getfield 789 :: .putfield 790 :: .aload 0 :: .getfield 789 :: .aload 0 :: .getfield 788 :: .if_icmp .lt 66 :: .aload 0 :: .iconst 0 :: .putfield 791 :: .goto 125 :: k_168_66
theorem fl_168_2 : m_fl (s_168.drop 2) = k_168_39 := (show m_fl (s_168.drop 2) = [.aload 0, .aload 0, .getfield 789, .putfield 790, .aload 0, .getfield 789, .aload 0, .getfield 788, .if_icmp .lt 66, .aload 0, .iconst 0, .putfield 791, .goto 125] ++ m_fl (s_168.drop 3) from rfl).trans (by rw [fl_168_3]; rfl)
noncomputable def k_168_26 : List Instr := .aload 0 :: .dup :: .getfield 789 :: .iconst 1 :: .iadd :: .putfield 789 :: .goto 0 :: k_168_39
theorem fl_168_1 : m_fl (s_168.drop 1) = k_168_26 := (show m_fl (s_168.drop 1) = [.aload 0, .dup, .getfield 789, .iconst 1, .iadd, .putfield 789, .goto 0] ++ m_fl (s_168.drop 2) from rfl).trans (by rw [fl_168_2]; rfl)
noncomputable def k_168_0 : List Instr := .aload 0 :: .aload 0 :: .getfield 789 :: .invokevirtual 163 :: .iconst 32 :: .if_icmp .eq 26 :: .aload 0 :: .aload 0 :: .getfield 789 :: .invokevirtual 163 :: .iconst 10 :: .if_icmp .ne 39 :: k_168_26
theorem fl_168_0 : m_fl (s_168.drop 0) = k_168_0 := (show m_fl (s_168.drop 0) = [.aload 0, .aload 0, .getfield 789, .invokevirtual 163, .iconst 32, .if_icmp .eq 26, .aload 0, .aload 0, .getfield 789, .invokevirtual 163, .iconst 10, .if_icmp .ne 39] ++ m_fl (s_168.drop 1) from rfl).trans (by rw [fl_168_1]; rfl)
theorem tn_168_0 {L : Nat} {xs : Nat → Int32} : m_tg (p_P L xs) 168 0 = k_168_0 := (show m_tgl s_168 0 = m_fl (s_168.drop 0) from rfl).trans fl_168_0
theorem tg_168_0 {L : Nat} {xs : Nat → Int32} : m_tg (p_P L xs) 168 0 = k_168_0 := (show m_tgl s_168 0 = m_fl (s_168.drop 0) from rfl).trans fl_168_0
theorem tg_168_26 {L : Nat} {xs : Nat → Int32} : m_tg (p_P L xs) 168 26 = k_168_26 := (show m_tgl s_168 26 = m_fl (s_168.drop 1) from rfl).trans fl_168_1
theorem tg_168_39 {L : Nat} {xs : Nat → Int32} : m_tg (p_P L xs) 168 39 = k_168_39 := (show m_tgl s_168 39 = m_fl (s_168.drop 2) from rfl).trans fl_168_2
theorem tg_168_66 {L : Nat} {xs : Nat → Int32} : m_tg (p_P L xs) 168 66 = k_168_66 := (show m_tgl s_168 66 = m_fl (s_168.drop 3) from rfl).trans fl_168_3
theorem tg_168_88 {L : Nat} {xs : Nat → Int32} : m_tg (p_P L xs) 168 88 = k_168_88 := (show m_tgl s_168 88 = m_fl (s_168.drop 4) from rfl).trans fl_168_4
theorem tg_168_110 {L : Nat} {xs : Nat → Int32} : m_tg (p_P L xs) 168 110 = k_168_110 := (show m_tgl s_168 110 = m_fl (s_168.drop 5) from rfl).trans fl_168_5
theorem tg_168_125 {L : Nat} {xs : Nat → Int32} : m_tg (p_P L xs) 168 125 = k_168_125 := (show m_tgl s_168 125 = m_fl (s_168.drop 6) from rfl).trans fl_168_6
noncomputable def k_169_0 : List Instr := .aload 0 :: .iload 1 :: .putfield 788 :: .aload 0 :: .iconst 0 :: .putfield 787 :: .aload 0 :: .iconst 0 :: .putfield 789 :: .aload 0 :: .iconst 0 :: .putfield 794 :: .aload 0 :: .iconst (-1) :: .putfield 795 :: .aload 0 :: .invokevirtual 168 :: .return_ :: []
theorem fl_169_0 : m_fl (s_169.drop 0) = k_169_0 := rfl
theorem tn_169_0 {L : Nat} {xs : Nat → Int32} : m_tg (p_P L xs) 169 0 = k_169_0 := (show m_tgl s_169 0 = m_fl (s_169.drop 0) from rfl).trans fl_169_0
noncomputable def k_170_20 : List Instr := .iconst 0 :: .ret 0 :: []
theorem fl_170_1 : m_fl (s_170.drop 1) = k_170_20 := rfl
noncomputable def k_170_0 : List Instr := .aload 0 :: .getfield 794 :: .ifCond .ne 20 :: .aload 0 :: .iload 1 :: .putfield 794 :: .aload 0 :: .aload 0 :: .getfield 790 :: .putfield 795 :: k_170_20
theorem fl_170_0 : m_fl (s_170.drop 0) = k_170_0 := (show m_fl (s_170.drop 0) = [.aload 0, .getfield 794, .ifCond .ne 20, .aload 0, .iload 1, .putfield 794, .aload 0, .aload 0, .getfield 790, .putfield 795] ++ m_fl (s_170.drop 1) from rfl).trans (by rw [fl_170_1]; rfl)
theorem tn_170_0 {L : Nat} {xs : Nat → Int32} : m_tg (p_P L xs) 170 0 = k_170_0 := (show m_tgl s_170 0 = m_fl (s_170.drop 0) from rfl).trans fl_170_0
theorem tg_170_20 {L : Nat} {xs : Nat → Int32} : m_tg (p_P L xs) 170 20 = k_170_20 := (show m_tgl s_170 20 = m_fl (s_170.drop 1) from rfl).trans fl_170_1
noncomputable def k_171_12 : List Instr := .ret 0 :: []
theorem fl_171_2 : m_fl (s_171.drop 2) = k_171_12 := rfl
noncomputable def k_171_11 : List Instr := .iconst 0 :: k_171_12
theorem fl_171_1 : m_fl (s_171.drop 1) = k_171_11 := (show m_fl (s_171.drop 1) = [.iconst 0] ++ m_fl (s_171.drop 2) from rfl).trans (by rw [fl_171_2]; rfl)
noncomputable def k_171_0 : List Instr := .aload 0 :: .getfield 794 :: .ifCond .ne 11 :: .iconst 1 :: .goto 12 :: k_171_11
theorem fl_171_0 : m_fl (s_171.drop 0) = k_171_0 := (show m_fl (s_171.drop 0) = [.aload 0, .getfield 794, .ifCond .ne 11, .iconst 1, .goto 12] ++ m_fl (s_171.drop 1) from rfl).trans (by rw [fl_171_1]; rfl)
theorem tn_171_0 {L : Nat} {xs : Nat → Int32} : m_tg (p_P L xs) 171 0 = k_171_0 := (show m_tgl s_171 0 = m_fl (s_171.drop 0) from rfl).trans fl_171_0
theorem tg_171_11 {L : Nat} {xs : Nat → Int32} : m_tg (p_P L xs) 171 11 = k_171_11 := (show m_tgl s_171 11 = m_fl (s_171.drop 1) from rfl).trans fl_171_1
theorem tg_171_12 {L : Nat} {xs : Nat → Int32} : m_tg (p_P L xs) 171 12 = k_171_12 := (show m_tgl s_171 12 = m_fl (s_171.drop 2) from rfl).trans fl_171_2
noncomputable def k_172_43 : List Instr := .ret 0 :: []
theorem fl_172_2 : m_fl (s_172.drop 2) = k_172_43 := rfl
noncomputable def k_172_42 : List Instr := .iconst 0 :: k_172_43
theorem fl_172_1 : m_fl (s_172.drop 1) = k_172_42 := (show m_fl (s_172.drop 1) = [.iconst 0] ++ m_fl (s_172.drop 2) from rfl).trans (by rw [fl_172_2]; rfl)
noncomputable def k_172_0 : List Instr := .aload 0 :: .invokevirtual 171 :: .ifCond .eq 42 :: .aload 0 :: .getfield 791 :: .iconst 1 :: .if_icmp .ne 42 :: .aload 0 :: .getfield 789 :: .aload 0 :: .getfield 790 :: .isub :: .iconst 10 :: .if_icmp .gt 42 :: .aload 0 :: .getfield 793 :: .lload 1 :: .lcmp :: .ifCond .ne 42 :: .iconst 1 :: .goto 43 :: k_172_42
theorem fl_172_0 : m_fl (s_172.drop 0) = k_172_0 := (show m_fl (s_172.drop 0) = [.aload 0, .invokevirtual 171, .ifCond .eq 42, .aload 0, .getfield 791, .iconst 1, .if_icmp .ne 42, .aload 0, .getfield 789, .aload 0, .getfield 790, .isub, .iconst 10, .if_icmp .gt 42, .aload 0, .getfield 793, .lload 1, .lcmp, .ifCond .ne 42, .iconst 1, .goto 43] ++ m_fl (s_172.drop 1) from rfl).trans (by rw [fl_172_1]; rfl)
theorem tn_172_0 {L : Nat} {xs : Nat → Int32} : m_tg (p_P L xs) 172 0 = k_172_0 := (show m_tgl s_172 0 = m_fl (s_172.drop 0) from rfl).trans fl_172_0
theorem tg_172_42 {L : Nat} {xs : Nat → Int32} : m_tg (p_P L xs) 172 42 = k_172_42 := (show m_tgl s_172 42 = m_fl (s_172.drop 1) from rfl).trans fl_172_1
theorem tg_172_43 {L : Nat} {xs : Nat → Int32} : m_tg (p_P L xs) 172 43 = k_172_43 := (show m_tgl s_172 43 = m_fl (s_172.drop 2) from rfl).trans fl_172_2
noncomputable def k_173_10 : List Instr := .aload 0 :: .invokevirtual 168 :: .iconst 1 :: .ret 0 :: []
theorem fl_173_1 : m_fl (s_173.drop 1) = k_173_10 := rfl
noncomputable def k_173_0 : List Instr := .aload 0 :: .lload 1 :: .invokevirtual 172 :: .ifCond .ne 10 :: .iconst 0 :: .ret 0 :: k_173_10
theorem fl_173_0 : m_fl (s_173.drop 0) = k_173_0 := (show m_fl (s_173.drop 0) = [.aload 0, .lload 1, .invokevirtual 172, .ifCond .ne 10, .iconst 0, .ret 0] ++ m_fl (s_173.drop 1) from rfl).trans (by rw [fl_173_1]; rfl)
theorem tn_173_0 {L : Nat} {xs : Nat → Int32} : m_tg (p_P L xs) 173 0 = k_173_0 := (show m_tgl s_173 0 = m_fl (s_173.drop 0) from rfl).trans fl_173_0
theorem tg_173_10 {L : Nat} {xs : Nat → Int32} : m_tg (p_P L xs) 173 10 = k_173_10 := (show m_tgl s_173 10 = m_fl (s_173.drop 1) from rfl).trans fl_173_1
noncomputable def k_174_33 : List Instr := .ret 0 :: []
theorem fl_174_2 : m_fl (s_174.drop 2) = k_174_33 := rfl
noncomputable def k_174_32 : List Instr := .iconst 0 :: k_174_33
theorem fl_174_1 : m_fl (s_174.drop 1) = k_174_32 := (show m_fl (s_174.drop 1) = [.iconst 0] ++ m_fl (s_174.drop 2) from rfl).trans (by rw [fl_174_2]; rfl)
noncomputable def k_174_0 : List Instr := .aload 0 :: .invokevirtual 171 :: .ifCond .eq 32 :: .aload 0 :: .getfield 791 :: .iconst 3 :: .if_icmp .ne 32 :: .aload 0 :: .getfield 786 :: .aload 0 :: .getfield 790 :: .iaload :: .iload 1 :: .if_icmp .ne 32 :: .iconst 1 :: .goto 33 :: k_174_32
theorem fl_174_0 : m_fl (s_174.drop 0) = k_174_0 := (show m_fl (s_174.drop 0) = [.aload 0, .invokevirtual 171, .ifCond .eq 32, .aload 0, .getfield 791, .iconst 3, .if_icmp .ne 32, .aload 0, .getfield 786, .aload 0, .getfield 790, .iaload, .iload 1, .if_icmp .ne 32, .iconst 1, .goto 33] ++ m_fl (s_174.drop 1) from rfl).trans (by rw [fl_174_1]; rfl)
theorem tn_174_0 {L : Nat} {xs : Nat → Int32} : m_tg (p_P L xs) 174 0 = k_174_0 := (show m_tgl s_174 0 = m_fl (s_174.drop 0) from rfl).trans fl_174_0
theorem tg_174_32 {L : Nat} {xs : Nat → Int32} : m_tg (p_P L xs) 174 32 = k_174_32 := (show m_tgl s_174 32 = m_fl (s_174.drop 1) from rfl).trans fl_174_1
theorem tg_174_33 {L : Nat} {xs : Nat → Int32} : m_tg (p_P L xs) 174 33 = k_174_33 := (show m_tgl s_174 33 = m_fl (s_174.drop 2) from rfl).trans fl_174_2
noncomputable def k_175_29 : List Instr := .return_ :: []
theorem fl_175_3 : m_fl (s_175.drop 3) = k_175_29 := rfl
noncomputable def k_175_23 : List Instr := .aload 0 :: .iconst 1 :: .invokevirtual 170 :: .pop :: k_175_29
theorem fl_175_2 : m_fl (s_175.drop 2) = k_175_23 := (show m_fl (s_175.drop 2) = [.aload 0, .iconst 1, .invokevirtual 170, .pop] ++ m_fl (s_175.drop 3) from rfl).trans (by rw [fl_175_3]; rfl)
noncomputable def k_175_8 : List Instr := .aload 0 :: .iload 1 :: .invokevirtual 174 :: .ifCond .eq 23 :: .aload 0 :: .invokevirtual 168 :: .goto 29 :: k_175_23
theorem fl_175_1 : m_fl (s_175.drop 1) = k_175_8 := (show m_fl (s_175.drop 1) = [.aload 0, .iload 1, .invokevirtual 174, .ifCond .eq 23, .aload 0, .invokevirtual 168, .goto 29] ++ m_fl (s_175.drop 2) from rfl).trans (by rw [fl_175_2]; rfl)
noncomputable def k_175_0 : List Instr := .aload 0 :: .invokevirtual 171 :: .ifCond .ne 8 :: .return_ :: k_175_8
theorem fl_175_0 : m_fl (s_175.drop 0) = k_175_0 := (show m_fl (s_175.drop 0) = [.aload 0, .invokevirtual 171, .ifCond .ne 8, .return_] ++ m_fl (s_175.drop 1) from rfl).trans (by rw [fl_175_1]; rfl)
theorem tn_175_0 {L : Nat} {xs : Nat → Int32} : m_tg (p_P L xs) 175 0 = k_175_0 := (show m_tgl s_175 0 = m_fl (s_175.drop 0) from rfl).trans fl_175_0
theorem tg_175_8 {L : Nat} {xs : Nat → Int32} : m_tg (p_P L xs) 175 8 = k_175_8 := (show m_tgl s_175 8 = m_fl (s_175.drop 1) from rfl).trans fl_175_1
theorem tg_175_23 {L : Nat} {xs : Nat → Int32} : m_tg (p_P L xs) 175 23 = k_175_23 := (show m_tgl s_175 23 = m_fl (s_175.drop 2) from rfl).trans fl_175_2
theorem tg_175_29 {L : Nat} {xs : Nat → Int32} : m_tg (p_P L xs) 175 29 = k_175_29 := (show m_tgl s_175 29 = m_fl (s_175.drop 3) from rfl).trans fl_175_3
noncomputable def k_176_56 : List Instr := .aload 0 :: .getfield 792 :: .istore 3 :: .aload 0 :: .invokevirtual 168 :: .iload 3 :: .ireturn :: []
theorem fl_176_4 : m_fl (s_176.drop 4) = k_176_56 := rfl
noncomputable def k_176_47 : List Instr := .aload 0 :: .invokevirtual 171 :: .ifCond .ne 56 :: .iload 1 :: .ireturn :: k_176_56
theorem fl_176_3 : m_fl (s_176.drop 3) = k_176_47 := (show m_fl (s_176.drop 3) = [.aload 0, .invokevirtual 171, .ifCond .ne 56, .iload 1, .ireturn] ++ m_fl (s_176.drop 4) from rfl).trans (by rw [fl_176_4]; rfl)
noncomputable def k_176_26 : List Instr := .aload 0 :: .getfield 792 :: .i2l :: .iload 1 :: .i2l :: .iload 2 :: .i2l :: .invokestatic 153 :: .ifCond .ne 47 :: .aload 0 :: .iconst 2 :: .invokevirtual 170 :: .pop :: k_176_47
theorem fl_176_2 : m_fl (s_176.drop 2) = k_176_26 := (show m_fl (s_176.drop 2) = [.aload 0, .getfield 792, .i2l, .iload 1, .i2l, .iload 2, .i2l, .invokestatic 153, .ifCond .ne 47, .aload 0, .iconst 2, .invokevirtual 170, .pop] ++ m_fl (s_176.drop 3) from rfl).trans (by rw [fl_176_3]; rfl)
noncomputable def k_176_9 : List Instr := .aload 0 :: .getfield 791 :: .iconst 2 :: .if_icmp .eq 26 :: .aload 0 :: .iconst 1 :: .invokevirtual 170 :: .pop :: .goto 47 :: k_176_26
theorem fl_176_1 : m_fl (s_176.drop 1) = k_176_9 := (show m_fl (s_176.drop 1) = [.aload 0, .getfield 791, .iconst 2, .if_icmp .eq 26, .aload 0, .iconst 1, .invokevirtual 170, .pop, .goto 47] ++ m_fl (s_176.drop 2) from rfl).trans (by rw [fl_176_2]; rfl)
noncomputable def k_176_0 : List Instr := .aload 0 :: .invokevirtual 171 :: .ifCond .ne 9 :: .iload 1 :: .ireturn :: k_176_9
theorem fl_176_0 : m_fl (s_176.drop 0) = k_176_0 := (show m_fl (s_176.drop 0) = [.aload 0, .invokevirtual 171, .ifCond .ne 9, .iload 1, .ireturn] ++ m_fl (s_176.drop 1) from rfl).trans (by rw [fl_176_1]; rfl)
theorem tn_176_0 {L : Nat} {xs : Nat → Int32} : m_tg (p_P L xs) 176 0 = k_176_0 := (show m_tgl s_176 0 = m_fl (s_176.drop 0) from rfl).trans fl_176_0
theorem tg_176_9 {L : Nat} {xs : Nat → Int32} : m_tg (p_P L xs) 176 9 = k_176_9 := (show m_tgl s_176 9 = m_fl (s_176.drop 1) from rfl).trans fl_176_1
theorem tg_176_26 {L : Nat} {xs : Nat → Int32} : m_tg (p_P L xs) 176 26 = k_176_26 := (show m_tgl s_176 26 = m_fl (s_176.drop 2) from rfl).trans fl_176_2
theorem tg_176_47 {L : Nat} {xs : Nat → Int32} : m_tg (p_P L xs) 176 47 = k_176_47 := (show m_tgl s_176 47 = m_fl (s_176.drop 3) from rfl).trans fl_176_3
theorem tg_176_56 {L : Nat} {xs : Nat → Int32} : m_tg (p_P L xs) 176 56 = k_176_56 := (show m_tgl s_176 56 = m_fl (s_176.drop 4) from rfl).trans fl_176_4
noncomputable def k_177_125 : List Instr := .ret 0 :: []
theorem fl_177_3 : m_fl (s_177.drop 3) = k_177_125 := rfl
noncomputable def k_177_124 : List Instr := .iconst 0 :: k_177_125
theorem fl_177_2 : m_fl (s_177.drop 2) = k_177_124 := (show m_fl (s_177.drop 2) = [.iconst 0] ++ m_fl (s_177.drop 3) from rfl).trans (by rw [fl_177_3]; rfl)
noncomputable def k_177_120 : List Instr := .iconst 1 :: .goto 125 :: k_177_124
theorem fl_177_1 : m_fl (s_177.drop 1) = k_177_120 := (show m_fl (s_177.drop 1) = [.iconst 1, .goto 125] ++ m_fl (s_177.drop 2) from rfl).trans (by rw [fl_177_2]; rfl)
noncomputable def k_177_0 : List Instr := .aload 0 :: .ldc2_w 1813182427 :: .invokevirtual 172 :: .ifCond .ne 120 :: .aload 0 :: .ldc2_w 1384660795 :: .invokevirtual 172 :: .ifCond .ne 120 :: .aload 0 :: .ldc2_w 400577 :: .invokevirtual 172 :: .ifCond .ne 120 :: .aload 0 :: .ldc2_w 261327161 :: .invokevirtual 172 :: .ifCond .ne 120 :: .aload 0 :: .ldc2_w 14006 :: .invokevirtual 172 :: .ifCond .ne 120 :: .aload 0 :: .ldc2_w 220309 :: .invokevirtual 172 :: .ifCond .ne 120 :: .aload 0 :: .ldc2_w 2232979 :: .invokevirtual 172 :: .ifCond .ne 120 :: .aload 0 :: .ldc2_w 60115 :: .invokevirtual 172 :: .ifCond .ne 120 :: .aload 0 :: .ldc2_w 283616030 :: .invokevirtual 172 :: .ifCond .ne 120 :: .aload 0 :: .ldc2_w 237745544 :: .invokevirtual 172 :: .ifCond .ne 120 :: .aload 0 :: .ldc2_w 3094387 :: .invokevirtual 172 :: .ifCond .ne 120 :: .aload 0 :: .ldc2_w 84273568011 :: .invokevirtual 172 :: .ifCond .eq 124 :: k_177_120
theorem fl_177_0 : m_fl (s_177.drop 0) = k_177_0 := (show m_fl (s_177.drop 0) = [.aload 0, .ldc2_w 1813182427, .invokevirtual 172, .ifCond .ne 120, .aload 0, .ldc2_w 1384660795, .invokevirtual 172, .ifCond .ne 120, .aload 0, .ldc2_w 400577, .invokevirtual 172, .ifCond .ne 120, .aload 0, .ldc2_w 261327161, .invokevirtual 172, .ifCond .ne 120, .aload 0, .ldc2_w 14006, .invokevirtual 172, .ifCond .ne 120, .aload 0, .ldc2_w 220309, .invokevirtual 172, .ifCond .ne 120, .aload 0, .ldc2_w 2232979, .invokevirtual 172, .ifCond .ne 120, .aload 0, .ldc2_w 60115, .invokevirtual 172, .ifCond .ne 120, .aload 0, .ldc2_w 283616030, .invokevirtual 172, .ifCond .ne 120, .aload 0, .ldc2_w 237745544, .invokevirtual 172, .ifCond .ne 120, .aload 0, .ldc2_w 3094387, .invokevirtual 172, .ifCond .ne 120, .aload 0, .ldc2_w 84273568011, .invokevirtual 172, .ifCond .eq 124] ++ m_fl (s_177.drop 1) from rfl).trans (by rw [fl_177_1]; rfl)
theorem tn_177_0 {L : Nat} {xs : Nat → Int32} : m_tg (p_P L xs) 177 0 = k_177_0 := (show m_tgl s_177 0 = m_fl (s_177.drop 0) from rfl).trans fl_177_0
theorem tg_177_120 {L : Nat} {xs : Nat → Int32} : m_tg (p_P L xs) 177 120 = k_177_120 := (show m_tgl s_177 120 = m_fl (s_177.drop 1) from rfl).trans fl_177_1
theorem tg_177_124 {L : Nat} {xs : Nat → Int32} : m_tg (p_P L xs) 177 124 = k_177_124 := (show m_tgl s_177 124 = m_fl (s_177.drop 2) from rfl).trans fl_177_2
theorem tg_177_125 {L : Nat} {xs : Nat → Int32} : m_tg (p_P L xs) 177 125 = k_177_125 := (show m_tgl s_177 125 = m_fl (s_177.drop 3) from rfl).trans fl_177_3
noncomputable def k_178_103 : List Instr := .ret 0 :: []
theorem fl_178_3 : m_fl (s_178.drop 3) = k_178_103 := rfl
noncomputable def k_178_102 : List Instr := .iconst 0 :: k_178_103
theorem fl_178_2 : m_fl (s_178.drop 2) = k_178_102 := (show m_fl (s_178.drop 2) = [.iconst 0] ++ m_fl (s_178.drop 3) from rfl).trans (by rw [fl_178_3]; rfl)
noncomputable def k_178_98 : List Instr := .iconst 1 :: .goto 103 :: k_178_102
theorem fl_178_1 : m_fl (s_178.drop 1) = k_178_98 := (show m_fl (s_178.drop 1) = [.iconst 1, .goto 103] ++ m_fl (s_178.drop 2) from rfl).trans (by rw [fl_178_2]; rfl)
noncomputable def k_178_0 : List Instr := .aload 0 :: .invokevirtual 179 :: .iconst (-1) :: .if_icmp .ne 98 :: .aload 0 :: .ldc2_w 423 :: .invokevirtual 172 :: .ifCond .ne 98 :: .aload 0 :: .ldc2_w 1111 :: .invokevirtual 172 :: .ifCond .ne 98 :: .aload 0 :: .ldc2_w 10631 :: .invokevirtual 172 :: .ifCond .ne 98 :: .aload 0 :: .ldc2_w 13264 :: .invokevirtual 172 :: .ifCond .ne 98 :: .aload 0 :: .ldc2_w 16083 :: .invokevirtual 172 :: .ifCond .ne 98 :: .aload 0 :: .ldc2_w 1222 :: .invokevirtual 172 :: .ifCond .ne 98 :: .aload 0 :: .ldc2_w 13276 :: .invokevirtual 172 :: .ifCond .ne 98 :: .aload 0 :: .ldc2_w 257011 :: .invokevirtual 172 :: .ifCond .ne 98 :: .aload 0 :: .ldc2_w 3379448 :: .invokevirtual 172 :: .ifCond .eq 102 :: k_178_98
theorem fl_178_0 : m_fl (s_178.drop 0) = k_178_0 := (show m_fl (s_178.drop 0) = [.aload 0, .invokevirtual 179, .iconst (-1), .if_icmp .ne 98, .aload 0, .ldc2_w 423, .invokevirtual 172, .ifCond .ne 98, .aload 0, .ldc2_w 1111, .invokevirtual 172, .ifCond .ne 98, .aload 0, .ldc2_w 10631, .invokevirtual 172, .ifCond .ne 98, .aload 0, .ldc2_w 13264, .invokevirtual 172, .ifCond .ne 98, .aload 0, .ldc2_w 16083, .invokevirtual 172, .ifCond .ne 98, .aload 0, .ldc2_w 1222, .invokevirtual 172, .ifCond .ne 98, .aload 0, .ldc2_w 13276, .invokevirtual 172, .ifCond .ne 98, .aload 0, .ldc2_w 257011, .invokevirtual 172, .ifCond .ne 98, .aload 0, .ldc2_w 3379448, .invokevirtual 172, .ifCond .eq 102] ++ m_fl (s_178.drop 1) from rfl).trans (by rw [fl_178_1]; rfl)
theorem tn_178_0 {L : Nat} {xs : Nat → Int32} : m_tg (p_P L xs) 178 0 = k_178_0 := (show m_tgl s_178 0 = m_fl (s_178.drop 0) from rfl).trans fl_178_0
theorem tg_178_98 {L : Nat} {xs : Nat → Int32} : m_tg (p_P L xs) 178 98 = k_178_98 := (show m_tgl s_178 98 = m_fl (s_178.drop 1) from rfl).trans fl_178_1
theorem tg_178_102 {L : Nat} {xs : Nat → Int32} : m_tg (p_P L xs) 178 102 = k_178_102 := (show m_tgl s_178 102 = m_fl (s_178.drop 2) from rfl).trans fl_178_2
theorem tg_178_103 {L : Nat} {xs : Nat → Int32} : m_tg (p_P L xs) 178 103 = k_178_103 := (show m_tgl s_178 103 = m_fl (s_178.drop 3) from rfl).trans fl_178_3
noncomputable def k_179_51 : List Instr := .ireturn :: []
theorem fl_179_5 : m_fl (s_179.drop 5) = k_179_51 := rfl
noncomputable def k_179_50 : List Instr := .iconst (-1) :: k_179_51
theorem fl_179_4 : m_fl (s_179.drop 4) = k_179_50 := (show m_fl (s_179.drop 4) = [.iconst (-1)] ++ m_fl (s_179.drop 5) from rfl).trans (by rw [fl_179_5]; rfl)
noncomputable def k_179_36 : List Instr := .aload 0 :: .ldc2_w 1755524 :: .invokevirtual 172 :: .ifCond .eq 50 :: .iconst 3 :: .goto 51 :: k_179_50
theorem fl_179_3 : m_fl (s_179.drop 3) = k_179_36 := (show m_fl (s_179.drop 3) = [.aload 0, .ldc2_w 1755524, .invokevirtual 172, .ifCond .eq 50, .iconst 3, .goto 51] ++ m_fl (s_179.drop 4) from rfl).trans (by rw [fl_179_4]; rfl)
noncomputable def k_179_24 : List Instr := .aload 0 :: .ldc2_w 305537 :: .invokevirtual 172 :: .ifCond .eq 36 :: .iconst 2 :: .ireturn :: k_179_36
theorem fl_179_2 : m_fl (s_179.drop 2) = k_179_24 := (show m_fl (s_179.drop 2) = [.aload 0, .ldc2_w 305537, .invokevirtual 172, .ifCond .eq 36, .iconst 2, .ireturn] ++ m_fl (s_179.drop 3) from rfl).trans (by rw [fl_179_3]; rfl)
noncomputable def k_179_12 : List Instr := .aload 0 :: .ldc2_w 670208 :: .invokevirtual 172 :: .ifCond .eq 24 :: .iconst 1 :: .ireturn :: k_179_24
theorem fl_179_1 : m_fl (s_179.drop 1) = k_179_12 := (show m_fl (s_179.drop 1) = [.aload 0, .ldc2_w 670208, .invokevirtual 172, .ifCond .eq 24, .iconst 1, .ireturn] ++ m_fl (s_179.drop 2) from rfl).trans (by rw [fl_179_2]; rfl)
noncomputable def k_179_0 : List Instr := .aload 0 :: .ldc2_w 330728 :: .invokevirtual 172 :: .ifCond .eq 12 :: .iconst 0 :: .ireturn :: k_179_12
theorem fl_179_0 : m_fl (s_179.drop 0) = k_179_0 := (show m_fl (s_179.drop 0) = [.aload 0, .ldc2_w 330728, .invokevirtual 172, .ifCond .eq 12, .iconst 0, .ireturn] ++ m_fl (s_179.drop 1) from rfl).trans (by rw [fl_179_1]; rfl)
theorem tn_179_0 {L : Nat} {xs : Nat → Int32} : m_tg (p_P L xs) 179 0 = k_179_0 := (show m_tgl s_179 0 = m_fl (s_179.drop 0) from rfl).trans fl_179_0
theorem tg_179_12 {L : Nat} {xs : Nat → Int32} : m_tg (p_P L xs) 179 12 = k_179_12 := (show m_tgl s_179 12 = m_fl (s_179.drop 1) from rfl).trans fl_179_1
theorem tg_179_24 {L : Nat} {xs : Nat → Int32} : m_tg (p_P L xs) 179 24 = k_179_24 := (show m_tgl s_179 24 = m_fl (s_179.drop 2) from rfl).trans fl_179_2
theorem tg_179_36 {L : Nat} {xs : Nat → Int32} : m_tg (p_P L xs) 179 36 = k_179_36 := (show m_tgl s_179 36 = m_fl (s_179.drop 3) from rfl).trans fl_179_3
theorem tg_179_50 {L : Nat} {xs : Nat → Int32} : m_tg (p_P L xs) 179 50 = k_179_50 := (show m_tgl s_179 50 = m_fl (s_179.drop 4) from rfl).trans fl_179_4
theorem tg_179_51 {L : Nat} {xs : Nat → Int32} : m_tg (p_P L xs) 179 51 = k_179_51 := (show m_tgl s_179 51 = m_fl (s_179.drop 5) from rfl).trans fl_179_5
noncomputable def k_180_140 : List Instr := .ireturn :: []
theorem fl_180_12 : m_fl (s_180.drop 12) = k_180_140 := rfl
noncomputable def k_180_139 : List Instr := .iconst (-1) :: k_180_140
theorem fl_180_11 : m_fl (s_180.drop 11) = k_180_139 := (show m_fl (s_180.drop 11) = [.iconst (-1)] ++ m_fl (s_180.drop 12) from rfl).trans (by rw [fl_180_12]; rfl)
noncomputable def k_180_124 : List Instr := .aload 0 :: .ldc2_w 1421453197 :: .invokevirtual 172 :: .ifCond .eq 139 :: .iconst 10 :: .goto 140 :: k_180_139
theorem fl_180_10 : m_fl (s_180.drop 10) = k_180_124 := (show m_fl (s_180.drop 10) = [.aload 0, .ldc2_w 1421453197, .invokevirtual 172, .ifCond .eq 139, .iconst 10, .goto 140] ++ m_fl (s_180.drop 11) from rfl).trans (by rw [fl_180_11]; rfl)
noncomputable def k_180_111 : List Instr := .aload 0 :: .ldc2_w 44960072472307 :: .invokevirtual 172 :: .ifCond .eq 124 :: .iconst 9 :: .ireturn :: k_180_124
theorem fl_180_9 : m_fl (s_180.drop 9) = k_180_111 := (show m_fl (s_180.drop 9) = [.aload 0, .ldc2_w 44960072472307, .invokevirtual 172, .ifCond .eq 124, .iconst 9, .ireturn] ++ m_fl (s_180.drop 10) from rfl).trans (by rw [fl_180_10]; rfl)
noncomputable def k_180_98 : List Instr := .aload 0 :: .ldc2_w 261327161 :: .invokevirtual 172 :: .ifCond .eq 111 :: .iconst 8 :: .ireturn :: k_180_111
theorem fl_180_8 : m_fl (s_180.drop 8) = k_180_98 := (show m_fl (s_180.drop 8) = [.aload 0, .ldc2_w 261327161, .invokevirtual 172, .ifCond .eq 111, .iconst 8, .ireturn] ++ m_fl (s_180.drop 9) from rfl).trans (by rw [fl_180_9]; rfl)
noncomputable def k_180_85 : List Instr := .aload 0 :: .ldc2_w 2343906806 :: .invokevirtual 172 :: .ifCond .eq 98 :: .iconst 7 :: .ireturn :: k_180_98
theorem fl_180_7 : m_fl (s_180.drop 7) = k_180_85 := (show m_fl (s_180.drop 7) = [.aload 0, .ldc2_w 2343906806, .invokevirtual 172, .ifCond .eq 98, .iconst 7, .ireturn] ++ m_fl (s_180.drop 8) from rfl).trans (by rw [fl_180_8]; rfl)
noncomputable def k_180_72 : List Instr := .aload 0 :: .ldc2_w 10492313 :: .invokevirtual 172 :: .ifCond .eq 85 :: .iconst 6 :: .ireturn :: k_180_85
theorem fl_180_6 : m_fl (s_180.drop 6) = k_180_72 := (show m_fl (s_180.drop 6) = [.aload 0, .ldc2_w 10492313, .invokevirtual 172, .ifCond .eq 85, .iconst 6, .ireturn] ++ m_fl (s_180.drop 7) from rfl).trans (by rw [fl_180_7]; rfl)
noncomputable def k_180_60 : List Instr := .aload 0 :: .ldc2_w 174476693248 :: .invokevirtual 172 :: .ifCond .eq 72 :: .iconst 5 :: .ireturn :: k_180_72
theorem fl_180_5 : m_fl (s_180.drop 5) = k_180_60 := (show m_fl (s_180.drop 5) = [.aload 0, .ldc2_w 174476693248, .invokevirtual 172, .ifCond .eq 72, .iconst 5, .ireturn] ++ m_fl (s_180.drop 6) from rfl).trans (by rw [fl_180_6]; rfl)
noncomputable def k_180_48 : List Instr := .aload 0 :: .ldc2_w 17545784537 :: .invokevirtual 172 :: .ifCond .eq 60 :: .iconst 4 :: .ireturn :: k_180_60
theorem fl_180_4 : m_fl (s_180.drop 4) = k_180_48 := (show m_fl (s_180.drop 4) = [.aload 0, .ldc2_w 17545784537, .invokevirtual 172, .ifCond .eq 60, .iconst 4, .ireturn] ++ m_fl (s_180.drop 5) from rfl).trans (by rw [fl_180_5]; rfl)
noncomputable def k_180_36 : List Instr := .aload 0 :: .ldc2_w 1831780 :: .invokevirtual 172 :: .ifCond .eq 48 :: .iconst 3 :: .ireturn :: k_180_48
theorem fl_180_3 : m_fl (s_180.drop 3) = k_180_36 := (show m_fl (s_180.drop 3) = [.aload 0, .ldc2_w 1831780, .invokevirtual 172, .ifCond .eq 48, .iconst 3, .ireturn] ++ m_fl (s_180.drop 4) from rfl).trans (by rw [fl_180_4]; rfl)
noncomputable def k_180_24 : List Instr := .aload 0 :: .ldc2_w 223456 :: .invokevirtual 172 :: .ifCond .eq 36 :: .iconst 2 :: .ireturn :: k_180_36
theorem fl_180_2 : m_fl (s_180.drop 2) = k_180_24 := (show m_fl (s_180.drop 2) = [.aload 0, .ldc2_w 223456, .invokevirtual 172, .ifCond .eq 36, .iconst 2, .ireturn] ++ m_fl (s_180.drop 3) from rfl).trans (by rw [fl_180_3]; rfl)
noncomputable def k_180_12 : List Instr := .aload 0 :: .ldc2_w 67154904 :: .invokevirtual 172 :: .ifCond .eq 24 :: .iconst 1 :: .ireturn :: k_180_24
theorem fl_180_1 : m_fl (s_180.drop 1) = k_180_12 := (show m_fl (s_180.drop 1) = [.aload 0, .ldc2_w 67154904, .invokevirtual 172, .ifCond .eq 24, .iconst 1, .ireturn] ++ m_fl (s_180.drop 2) from rfl).trans (by rw [fl_180_2]; rfl)
noncomputable def k_180_0 : List Instr := .aload 0 :: .ldc2_w 212302449 :: .invokevirtual 172 :: .ifCond .eq 12 :: .iconst 0 :: .ireturn :: k_180_12
theorem fl_180_0 : m_fl (s_180.drop 0) = k_180_0 := (show m_fl (s_180.drop 0) = [.aload 0, .ldc2_w 212302449, .invokevirtual 172, .ifCond .eq 12, .iconst 0, .ireturn] ++ m_fl (s_180.drop 1) from rfl).trans (by rw [fl_180_1]; rfl)
theorem tn_180_0 {L : Nat} {xs : Nat → Int32} : m_tg (p_P L xs) 180 0 = k_180_0 := (show m_tgl s_180 0 = m_fl (s_180.drop 0) from rfl).trans fl_180_0
theorem tg_180_12 {L : Nat} {xs : Nat → Int32} : m_tg (p_P L xs) 180 12 = k_180_12 := (show m_tgl s_180 12 = m_fl (s_180.drop 1) from rfl).trans fl_180_1
theorem tg_180_24 {L : Nat} {xs : Nat → Int32} : m_tg (p_P L xs) 180 24 = k_180_24 := (show m_tgl s_180 24 = m_fl (s_180.drop 2) from rfl).trans fl_180_2
theorem tg_180_36 {L : Nat} {xs : Nat → Int32} : m_tg (p_P L xs) 180 36 = k_180_36 := (show m_tgl s_180 36 = m_fl (s_180.drop 3) from rfl).trans fl_180_3
theorem tg_180_48 {L : Nat} {xs : Nat → Int32} : m_tg (p_P L xs) 180 48 = k_180_48 := (show m_tgl s_180 48 = m_fl (s_180.drop 4) from rfl).trans fl_180_4
theorem tg_180_60 {L : Nat} {xs : Nat → Int32} : m_tg (p_P L xs) 180 60 = k_180_60 := (show m_tgl s_180 60 = m_fl (s_180.drop 5) from rfl).trans fl_180_5
theorem tg_180_72 {L : Nat} {xs : Nat → Int32} : m_tg (p_P L xs) 180 72 = k_180_72 := (show m_tgl s_180 72 = m_fl (s_180.drop 6) from rfl).trans fl_180_6
theorem tg_180_85 {L : Nat} {xs : Nat → Int32} : m_tg (p_P L xs) 180 85 = k_180_85 := (show m_tgl s_180 85 = m_fl (s_180.drop 7) from rfl).trans fl_180_7
theorem tg_180_98 {L : Nat} {xs : Nat → Int32} : m_tg (p_P L xs) 180 98 = k_180_98 := (show m_tgl s_180 98 = m_fl (s_180.drop 8) from rfl).trans fl_180_8
theorem tg_180_111 {L : Nat} {xs : Nat → Int32} : m_tg (p_P L xs) 180 111 = k_180_111 := (show m_tgl s_180 111 = m_fl (s_180.drop 9) from rfl).trans fl_180_9
theorem tg_180_124 {L : Nat} {xs : Nat → Int32} : m_tg (p_P L xs) 180 124 = k_180_124 := (show m_tgl s_180 124 = m_fl (s_180.drop 10) from rfl).trans fl_180_10
theorem tg_180_139 {L : Nat} {xs : Nat → Int32} : m_tg (p_P L xs) 180 139 = k_180_139 := (show m_tgl s_180 139 = m_fl (s_180.drop 11) from rfl).trans fl_180_11
theorem tg_180_140 {L : Nat} {xs : Nat → Int32} : m_tg (p_P L xs) 180 140 = k_180_140 := (show m_tgl s_180 140 = m_fl (s_180.drop 12) from rfl).trans fl_180_12
noncomputable def k_181_35 : List Instr := .ret 0 :: []
theorem fl_181_2 : m_fl (s_181.drop 2) = k_181_35 := rfl
noncomputable def k_181_34 : List Instr := .iconst 0 :: k_181_35
theorem fl_181_1 : m_fl (s_181.drop 1) = k_181_34 := (show m_fl (s_181.drop 1) = [.iconst 0] ++ m_fl (s_181.drop 2) from rfl).trans (by rw [fl_181_2]; rfl)
noncomputable def k_181_0 : List Instr := .aload 0 :: .getfield 791 :: .iconst 1 :: .if_icmp .ne 34 :: .aload 0 :: .invokevirtual 177 :: .ifCond .ne 34 :: .aload 0 :: .invokevirtual 178 :: .ifCond .ne 34 :: .aload 0 :: .invokevirtual 180 :: .iconst (-1) :: .if_icmp .ne 34 :: .iconst 1 :: .goto 35 :: k_181_34
theorem fl_181_0 : m_fl (s_181.drop 0) = k_181_0 := (show m_fl (s_181.drop 0) = [.aload 0, .getfield 791, .iconst 1, .if_icmp .ne 34, .aload 0, .invokevirtual 177, .ifCond .ne 34, .aload 0, .invokevirtual 178, .ifCond .ne 34, .aload 0, .invokevirtual 180, .iconst (-1), .if_icmp .ne 34, .iconst 1, .goto 35] ++ m_fl (s_181.drop 1) from rfl).trans (by rw [fl_181_1]; rfl)
theorem tn_181_0 {L : Nat} {xs : Nat → Int32} : m_tg (p_P L xs) 181 0 = k_181_0 := (show m_tgl s_181 0 = m_fl (s_181.drop 0) from rfl).trans fl_181_0
theorem tg_181_34 {L : Nat} {xs : Nat → Int32} : m_tg (p_P L xs) 181 34 = k_181_34 := (show m_tgl s_181 34 = m_fl (s_181.drop 1) from rfl).trans fl_181_1
theorem tg_181_35 {L : Nat} {xs : Nat → Int32} : m_tg (p_P L xs) 181 35 = k_181_35 := (show m_tgl s_181 35 = m_fl (s_181.drop 2) from rfl).trans fl_181_2
noncomputable def k_182_67 : List Instr := .iconst 1 :: .ret 0 :: []
theorem fl_182_4 : m_fl (s_182.drop 4) = k_182_67 := rfl
noncomputable def k_182_61 : List Instr := .iinc 2 1 :: .goto 22 :: k_182_67
theorem fl_182_3 : m_fl (s_182.drop 3) = k_182_61 := (show m_fl (s_182.drop 3) = [.iinc 2 1, .goto 22] ++ m_fl (s_182.drop 4) from rfl).trans (by rw [fl_182_4]; rfl)
noncomputable def k_182_22 : List Instr := .iload 2 :: .aload 0 :: .getfield 779 :: .iload 1 :: .iaload :: .if_icmp .ge 67 :: .aload 0 :: .getfield 786 :: .aload 0 :: .getfield 778 :: .iload 1 :: .iaload :: .iload 2 :: .iadd :: .iaload :: .aload 0 :: .getfield 786 :: .aload 0 :: .getfield 790 :: .iload 2 :: .iadd :: .iaload :: .if_icmp .eq 61 :: .iconst 0 :: .ret 0 :: k_182_61
theorem fl_182_2 : m_fl (s_182.drop 2) = k_182_22 := (show m_fl (s_182.drop 2) = [.iload 2, .aload 0, .getfield 779, .iload 1, .iaload, .if_icmp .ge 67, .aload 0, .getfield 786, .aload 0, .getfield 778, .iload 1, .iaload, .iload 2, .iadd, .iaload, .aload 0, .getfield 786, .aload 0, .getfield 790, .iload 2, .iadd, .iaload, .if_icmp .eq 61, .iconst 0, .ret 0] ++ m_fl (s_182.drop 3) from rfl).trans (by rw [fl_182_3]; rfl)
noncomputable def k_182_20 : List Instr := .iconst 0 :: .istore 2 :: k_182_22
theorem fl_182_1 : m_fl (s_182.drop 1) = k_182_20 := (show m_fl (s_182.drop 1) = [.iconst 0, .istore 2] ++ m_fl (s_182.drop 2) from rfl).trans (by rw [fl_182_2]; rfl)
noncomputable def k_182_0 : List Instr := .aload 0 :: .getfield 779 :: .iload 1 :: .iaload :: .aload 0 :: .getfield 789 :: .aload 0 :: .getfield 790 :: .isub :: .if_icmp .eq 20 :: .iconst 0 :: .ret 0 :: k_182_20
theorem fl_182_0 : m_fl (s_182.drop 0) = k_182_0 := (show m_fl (s_182.drop 0) = [.aload 0, .getfield 779, .iload 1, .iaload, .aload 0, .getfield 789, .aload 0, .getfield 790, .isub, .if_icmp .eq 20, .iconst 0, .ret 0] ++ m_fl (s_182.drop 1) from rfl).trans (by rw [fl_182_1]; rfl)
theorem tn_182_0 {L : Nat} {xs : Nat → Int32} : m_tg (p_P L xs) 182 0 = k_182_0 := (show m_tgl s_182 0 = m_fl (s_182.drop 0) from rfl).trans fl_182_0
theorem tg_182_20 {L : Nat} {xs : Nat → Int32} : m_tg (p_P L xs) 182 20 = k_182_20 := (show m_tgl s_182 20 = m_fl (s_182.drop 1) from rfl).trans fl_182_1
theorem tg_182_22 {L : Nat} {xs : Nat → Int32} : m_tg (p_P L xs) 182 22 = k_182_22 := (show m_tgl s_182 22 = m_fl (s_182.drop 2) from rfl).trans fl_182_2
theorem tg_182_61 {L : Nat} {xs : Nat → Int32} : m_tg (p_P L xs) 182 61 = k_182_61 := (show m_tgl s_182 61 = m_fl (s_182.drop 3) from rfl).trans fl_182_3
theorem tg_182_67 {L : Nat} {xs : Nat → Int32} : m_tg (p_P L xs) 182 67 = k_182_67 := (show m_tgl s_182 67 = m_fl (s_182.drop 4) from rfl).trans fl_182_4
noncomputable def k_183_63 : List Instr := .aload 0 :: .getfield 778 :: .iload 1 :: .aload 0 :: .getfield 790 :: .iastore :: .aload 0 :: .getfield 779 :: .iload 1 :: .aload 0 :: .getfield 789 :: .aload 0 :: .getfield 790 :: .isub :: .iastore :: .aload 0 :: .invokevirtual 168 :: .return_ :: []
theorem fl_183_6 : m_fl (s_183.drop 6) = k_183_63 := rfl
noncomputable def k_183_55 : List Instr := .aload 0 :: .invokevirtual 171 :: .ifCond .ne 63 :: .return_ :: k_183_63
theorem fl_183_5 : m_fl (s_183.drop 5) = k_183_55 := (show m_fl (s_183.drop 5) = [.aload 0, .invokevirtual 171, .ifCond .ne 63, .return_] ++ m_fl (s_183.drop 6) from rfl).trans (by rw [fl_183_6]; rfl)
noncomputable def k_183_49 : List Instr := .iinc 2 1 :: .goto 23 :: k_183_55
theorem fl_183_4 : m_fl (s_183.drop 4) = k_183_49 := (show m_fl (s_183.drop 4) = [.iinc 2 1, .goto 23] ++ m_fl (s_183.drop 5) from rfl).trans (by rw [fl_183_5]; rfl)
noncomputable def k_183_23 : List Instr := .iload 2 :: .iload 1 :: .if_icmp .ge 55 :: .aload 0 :: .invokevirtual 171 :: .ifCond .eq 55 :: .aload 0 :: .iload 2 :: .invokevirtual 182 :: .ifCond .eq 49 :: .aload 0 :: .iconst 4 :: .invokevirtual 170 :: .pop :: k_183_49
theorem fl_183_3 : m_fl (s_183.drop 3) = k_183_23 := (show m_fl (s_183.drop 3) = [.iload 2, .iload 1, .if_icmp .ge 55, .aload 0, .invokevirtual 171, .ifCond .eq 55, .aload 0, .iload 2, .invokevirtual 182, .ifCond .eq 49, .aload 0, .iconst 4, .invokevirtual 170, .pop] ++ m_fl (s_183.drop 4) from rfl).trans (by rw [fl_183_4]; rfl)
noncomputable def k_183_21 : List Instr := .iconst 0 :: .istore 2 :: k_183_23
theorem fl_183_2 : m_fl (s_183.drop 2) = k_183_21 := (show m_fl (s_183.drop 2) = [.iconst 0, .istore 2] ++ m_fl (s_183.drop 3) from rfl).trans (by rw [fl_183_3]; rfl)
noncomputable def k_183_8 : List Instr := .aload 0 :: .invokevirtual 181 :: .ifCond .ne 21 :: .aload 0 :: .iconst 1 :: .invokevirtual 170 :: .pop :: k_183_21
theorem fl_183_1 : m_fl (s_183.drop 1) = k_183_8 := (show m_fl (s_183.drop 1) = [.aload 0, .invokevirtual 181, .ifCond .ne 21, .aload 0, .iconst 1, .invokevirtual 170, .pop] ++ m_fl (s_183.drop 2) from rfl).trans (by rw [fl_183_2]; rfl)
noncomputable def k_183_0 : List Instr := .aload 0 :: .invokevirtual 171 :: .ifCond .ne 8 :: .return_ :: k_183_8
theorem fl_183_0 : m_fl (s_183.drop 0) = k_183_0 := (show m_fl (s_183.drop 0) = [.aload 0, .invokevirtual 171, .ifCond .ne 8, .return_] ++ m_fl (s_183.drop 1) from rfl).trans (by rw [fl_183_1]; rfl)
theorem tn_183_0 {L : Nat} {xs : Nat → Int32} : m_tg (p_P L xs) 183 0 = k_183_0 := (show m_tgl s_183 0 = m_fl (s_183.drop 0) from rfl).trans fl_183_0
theorem tg_183_8 {L : Nat} {xs : Nat → Int32} : m_tg (p_P L xs) 183 8 = k_183_8 := (show m_tgl s_183 8 = m_fl (s_183.drop 1) from rfl).trans fl_183_1
theorem tg_183_21 {L : Nat} {xs : Nat → Int32} : m_tg (p_P L xs) 183 21 = k_183_21 := (show m_tgl s_183 21 = m_fl (s_183.drop 2) from rfl).trans fl_183_2
theorem tg_183_23 {L : Nat} {xs : Nat → Int32} : m_tg (p_P L xs) 183 23 = k_183_23 := (show m_tgl s_183 23 = m_fl (s_183.drop 3) from rfl).trans fl_183_3
theorem tg_183_49 {L : Nat} {xs : Nat → Int32} : m_tg (p_P L xs) 183 49 = k_183_49 := (show m_tgl s_183 49 = m_fl (s_183.drop 4) from rfl).trans fl_183_4
theorem tg_183_55 {L : Nat} {xs : Nat → Int32} : m_tg (p_P L xs) 183 55 = k_183_55 := (show m_tgl s_183 55 = m_fl (s_183.drop 5) from rfl).trans fl_183_5
theorem tg_183_63 {L : Nat} {xs : Nat → Int32} : m_tg (p_P L xs) 183 63 = k_183_63 := (show m_tgl s_183 63 = m_fl (s_183.drop 6) from rfl).trans fl_183_6
noncomputable def k_184_30 : List Instr := .aload 0 :: .dup :: .getfield 799 :: .iconst 1 :: .iadd :: .putfield 799 :: .return_ :: []
theorem fl_184_2 : m_fl (s_184.drop 2) = k_184_30 := rfl
noncomputable def k_184_20 : List Instr := .aload 0 :: .getfield 777 :: .aload 0 :: .getfield 799 :: .iload 1 :: .iastore :: k_184_30
theorem fl_184_1 : m_fl (s_184.drop 1) = k_184_20 := (show m_fl (s_184.drop 1) = [.aload 0, .getfield 777, .aload 0, .getfield 799, .iload 1, .iastore] ++ m_fl (s_184.drop 2) from rfl).trans (by rw [fl_184_2]; rfl)
noncomputable def k_184_0 : List Instr := .aload 0 :: .getfield 803 :: .ifCond .eq 20 :: .aload 0 :: .getfield 798 :: .aload 0 :: .getfield 799 :: .iload 1 :: .iastore :: .goto 30 :: k_184_20
theorem fl_184_0 : m_fl (s_184.drop 0) = k_184_0 := (show m_fl (s_184.drop 0) = [.aload 0, .getfield 803, .ifCond .eq 20, .aload 0, .getfield 798, .aload 0, .getfield 799, .iload 1, .iastore, .goto 30] ++ m_fl (s_184.drop 1) from rfl).trans (by rw [fl_184_1]; rfl)
theorem tn_184_0 {L : Nat} {xs : Nat → Int32} : m_tg (p_P L xs) 184 0 = k_184_0 := (show m_tgl s_184 0 = m_fl (s_184.drop 0) from rfl).trans fl_184_0
theorem tg_184_20 {L : Nat} {xs : Nat → Int32} : m_tg (p_P L xs) 184 20 = k_184_20 := (show m_tgl s_184 20 = m_fl (s_184.drop 1) from rfl).trans fl_184_1
theorem tg_184_30 {L : Nat} {xs : Nat → Int32} : m_tg (p_P L xs) 184 30 = k_184_30 := (show m_tgl s_184 30 = m_fl (s_184.drop 2) from rfl).trans fl_184_2
noncomputable def k_185_15 : List Instr := .aload 0 :: .dup :: .getfield 801 :: .iconst 1 :: .iadd :: .putfield 801 :: .aload 0 :: .getfield 796 :: .aload 0 :: .getfield 800 :: .iload 1 :: .iastore :: .aload 0 :: .dup :: .getfield 800 :: .iconst 1 :: .iadd :: .putfield 800 :: .aload 0 :: .invokevirtual 168 :: .iconst 1 :: .ret 0 :: []
theorem fl_185_1 : m_fl (s_185.drop 1) = k_185_15 := rfl
noncomputable def k_185_0 : List Instr := .aload 0 :: .getfield 801 :: .iconst 6 :: .if_icmp .ne 15 :: .aload 0 :: .iconst 3 :: .invokevirtual 170 :: .ret 0 :: k_185_15
theorem fl_185_0 : m_fl (s_185.drop 0) = k_185_0 := (show m_fl (s_185.drop 0) = [.aload 0, .getfield 801, .iconst 6, .if_icmp .ne 15, .aload 0, .iconst 3, .invokevirtual 170, .ret 0] ++ m_fl (s_185.drop 1) from rfl).trans (by rw [fl_185_1]; rfl)
theorem tn_185_0 {L : Nat} {xs : Nat → Int32} : m_tg (p_P L xs) 185 0 = k_185_0 := (show m_tgl s_185 0 = m_fl (s_185.drop 0) from rfl).trans fl_185_0
theorem tg_185_15 {L : Nat} {xs : Nat → Int32} : m_tg (p_P L xs) 185 15 = k_185_15 := (show m_tgl s_185 15 = m_fl (s_185.drop 1) from rfl).trans fl_185_1
noncomputable def k_186_155 : List Instr := .return_ :: []
theorem fl_186_7 : m_fl (s_186.drop 7) = k_186_155 := rfl
noncomputable def k_186_149 : List Instr := .aload 0 :: .iconst 1 :: .invokevirtual 170 :: .pop :: k_186_155
theorem fl_186_6 : m_fl (s_186.drop 6) = k_186_149 := (show m_fl (s_186.drop 6) = [.aload 0, .iconst 1, .invokevirtual 170, .pop] ++ m_fl (s_186.drop 7) from rfl).trans (by rw [fl_186_7]; rfl)
noncomputable def k_186_122 : List Instr := .aload 0 :: .getfield 802 :: .iconst 3 :: .if_icmp .lt 149 :: .aload 0 :: .ldc2_w 13276 :: .invokevirtual 173 :: .ifCond .eq 149 :: .aload 0 :: .iconst 13 :: .invokevirtual 184 :: .goto 155 :: k_186_149
theorem fl_186_5 : m_fl (s_186.drop 5) = k_186_122 := (show m_fl (s_186.drop 5) = [.aload 0, .getfield 802, .iconst 3, .if_icmp .lt 149, .aload 0, .ldc2_w 13276, .invokevirtual 173, .ifCond .eq 149, .aload 0, .iconst 13, .invokevirtual 184, .goto 155] ++ m_fl (s_186.drop 6) from rfl).trans (by rw [fl_186_6]; rfl)
noncomputable def k_186_103 : List Instr := .aload 0 :: .ldc2_w 1222 :: .invokevirtual 173 :: .ifCond .eq 122 :: .aload 0 :: .iconst 12 :: .invokevirtual 184 :: .goto 155 :: k_186_122
theorem fl_186_4 : m_fl (s_186.drop 4) = k_186_103 := (show m_fl (s_186.drop 4) = [.aload 0, .ldc2_w 1222, .invokevirtual 173, .ifCond .eq 122, .aload 0, .iconst 12, .invokevirtual 184, .goto 155] ++ m_fl (s_186.drop 5) from rfl).trans (by rw [fl_186_5]; rfl)
noncomputable def k_186_69 : List Instr := .aload 0 :: .getfield 802 :: .iconst 1 :: .if_icmp .eq 103 :: .aload 0 :: .ldc2_w 16083 :: .invokevirtual 173 :: .ifCond .eq 103 :: .aload 0 :: .iconst 8 :: .aload 0 :: .iconst 0 :: .iconst 3 :: .invokevirtual 176 :: .iadd :: .invokevirtual 184 :: .goto 155 :: k_186_103
theorem fl_186_3 : m_fl (s_186.drop 3) = k_186_69 := (show m_fl (s_186.drop 3) = [.aload 0, .getfield 802, .iconst 1, .if_icmp .eq 103, .aload 0, .ldc2_w 16083, .invokevirtual 173, .ifCond .eq 103, .aload 0, .iconst 8, .aload 0, .iconst 0, .iconst 3, .invokevirtual 176, .iadd, .invokevirtual 184, .goto 155] ++ m_fl (s_186.drop 4) from rfl).trans (by rw [fl_186_4]; rfl)
noncomputable def k_186_37 : List Instr := .aload 0 :: .getfield 802 :: .iconst 4 :: .if_icmp .eq 69 :: .aload 0 :: .ldc2_w 13264 :: .invokevirtual 173 :: .ifCond .eq 69 :: .aload 0 :: .aload 0 :: .iconst 0 :: .iconst 7 :: .invokevirtual 176 :: .invokevirtual 184 :: .goto 155 :: k_186_69
theorem fl_186_2 : m_fl (s_186.drop 2) = k_186_37 := (show m_fl (s_186.drop 2) = [.aload 0, .getfield 802, .iconst 4, .if_icmp .eq 69, .aload 0, .ldc2_w 13264, .invokevirtual 173, .ifCond .eq 69, .aload 0, .aload 0, .iconst 0, .iconst 7, .invokevirtual 176, .invokevirtual 184, .goto 155] ++ m_fl (s_186.drop 3) from rfl).trans (by rw [fl_186_3]; rfl)
noncomputable def k_186_8 : List Instr := .aload 0 :: .getfield 791 :: .iconst 2 :: .if_icmp .ne 37 :: .aload 0 :: .iconst 0 :: .iconst (65535) :: .invokevirtual 176 :: .istore 1 :: .aload 0 :: .iconst 1000 :: .iload 1 :: .iadd :: .invokevirtual 184 :: .goto 155 :: k_186_37
theorem fl_186_1 : m_fl (s_186.drop 1) = k_186_8 := (show m_fl (s_186.drop 1) = [.aload 0, .getfield 791, .iconst 2, .if_icmp .ne 37, .aload 0, .iconst 0, .iconst (65535), .invokevirtual 176, .istore 1, .aload 0, .iconst 1000, .iload 1, .iadd, .invokevirtual 184, .goto 155] ++ m_fl (s_186.drop 2) from rfl).trans (by rw [fl_186_2]; rfl)
noncomputable def k_186_0 : List Instr := .aload 0 :: .invokevirtual 171 :: .ifCond .ne 8 :: .return_ :: k_186_8
theorem fl_186_0 : m_fl (s_186.drop 0) = k_186_0 := (show m_fl (s_186.drop 0) = [.aload 0, .invokevirtual 171, .ifCond .ne 8, .return_] ++ m_fl (s_186.drop 1) from rfl).trans (by rw [fl_186_1]; rfl)
theorem tn_186_0 {L : Nat} {xs : Nat → Int32} : m_tg (p_P L xs) 186 0 = k_186_0 := (show m_tgl s_186 0 = m_fl (s_186.drop 0) from rfl).trans fl_186_0
theorem tg_186_8 {L : Nat} {xs : Nat → Int32} : m_tg (p_P L xs) 186 8 = k_186_8 := (show m_tgl s_186 8 = m_fl (s_186.drop 1) from rfl).trans fl_186_1
theorem tg_186_37 {L : Nat} {xs : Nat → Int32} : m_tg (p_P L xs) 186 37 = k_186_37 := (show m_tgl s_186 37 = m_fl (s_186.drop 2) from rfl).trans fl_186_2
theorem tg_186_69 {L : Nat} {xs : Nat → Int32} : m_tg (p_P L xs) 186 69 = k_186_69 := (show m_tgl s_186 69 = m_fl (s_186.drop 3) from rfl).trans fl_186_3
theorem tg_186_103 {L : Nat} {xs : Nat → Int32} : m_tg (p_P L xs) 186 103 = k_186_103 := (show m_tgl s_186 103 = m_fl (s_186.drop 4) from rfl).trans fl_186_4
theorem tg_186_122 {L : Nat} {xs : Nat → Int32} : m_tg (p_P L xs) 186 122 = k_186_122 := (show m_tgl s_186 122 = m_fl (s_186.drop 5) from rfl).trans fl_186_5
theorem tg_186_149 {L : Nat} {xs : Nat → Int32} : m_tg (p_P L xs) 186 149 = k_186_149 := (show m_tgl s_186 149 = m_fl (s_186.drop 6) from rfl).trans fl_186_6
theorem tg_186_155 {L : Nat} {xs : Nat → Int32} : m_tg (p_P L xs) 186 155 = k_186_155 := (show m_tgl s_186 155 = m_fl (s_186.drop 7) from rfl).trans fl_186_7
noncomputable def k_187_27 : List Instr := .ireturn :: []
theorem fl_187_4 : m_fl (s_187.drop 4) = k_187_27 := rfl
noncomputable def k_187_26 : List Instr := .iconst 0 :: k_187_27
theorem fl_187_3 : m_fl (s_187.drop 3) = k_187_26 := (show m_fl (s_187.drop 3) = [.iconst 0] ++ m_fl (s_187.drop 4) from rfl).trans (by rw [fl_187_4]; rfl)
noncomputable def k_187_22 : List Instr := .iconst 2 :: .goto 27 :: k_187_26
theorem fl_187_2 : m_fl (s_187.drop 2) = k_187_22 := (show m_fl (s_187.drop 2) = [.iconst 2, .goto 27] ++ m_fl (s_187.drop 3) from rfl).trans (by rw [fl_187_3]; rfl)
noncomputable def k_187_10 : List Instr := .iload 0 :: .iconst 26 :: .if_icmp .eq 22 :: .iload 0 :: .iconst 27 :: .if_icmp .ne 26 :: k_187_22
theorem fl_187_1 : m_fl (s_187.drop 1) = k_187_10 := (show m_fl (s_187.drop 1) = [.iload 0, .iconst 26, .if_icmp .eq 22, .iload 0, .iconst 27, .if_icmp .ne 26] ++ m_fl (s_187.drop 2) from rfl).trans (by rw [fl_187_2]; rfl)
noncomputable def k_187_0 : List Instr := .iload 0 :: .iconst 28 :: .if_icmp .ne 10 :: .iconst 3 :: .goto 27 :: k_187_10
theorem fl_187_0 : m_fl (s_187.drop 0) = k_187_0 := (show m_fl (s_187.drop 0) = [.iload 0, .iconst 28, .if_icmp .ne 10, .iconst 3, .goto 27] ++ m_fl (s_187.drop 1) from rfl).trans (by rw [fl_187_1]; rfl)
theorem tn_187_0 {L : Nat} {xs : Nat → Int32} : m_tg (p_P L xs) 187 0 = k_187_0 := (show m_tgl s_187 0 = m_fl (s_187.drop 0) from rfl).trans fl_187_0
theorem tg_187_10 {L : Nat} {xs : Nat → Int32} : m_tg (p_P L xs) 187 10 = k_187_10 := (show m_tgl s_187 10 = m_fl (s_187.drop 1) from rfl).trans fl_187_1
theorem tg_187_22 {L : Nat} {xs : Nat → Int32} : m_tg (p_P L xs) 187 22 = k_187_22 := (show m_tgl s_187 22 = m_fl (s_187.drop 2) from rfl).trans fl_187_2
theorem tg_187_26 {L : Nat} {xs : Nat → Int32} : m_tg (p_P L xs) 187 26 = k_187_26 := (show m_tgl s_187 26 = m_fl (s_187.drop 3) from rfl).trans fl_187_3
theorem tg_187_27 {L : Nat} {xs : Nat → Int32} : m_tg (p_P L xs) 187 27 = k_187_27 := (show m_tgl s_187 27 = m_fl (s_187.drop 4) from rfl).trans fl_187_4
noncomputable def k_188_52 : List Instr := .return_ :: []
theorem fl_188_1 : m_fl (s_188.drop 1) = k_188_52 := rfl
noncomputable def k_188_0 : List Instr := .aload 0 :: .getfield 800 :: .iload 1 :: .if_icmp .le 52 :: .aload 0 :: .getfield 796 :: .aload 0 :: .getfield 800 :: .iconst 1 :: .isub :: .iaload :: .invokestatic 187 :: .iload 2 :: .if_icmp .lt 52 :: .aload 0 :: .dup :: .getfield 800 :: .iconst 1 :: .isub :: .putfield 800 :: .aload 0 :: .aload 0 :: .getfield 796 :: .aload 0 :: .getfield 800 :: .iaload :: .invokevirtual 184 :: .goto 0 :: k_188_52
theorem fl_188_0 : m_fl (s_188.drop 0) = k_188_0 := (show m_fl (s_188.drop 0) = [.aload 0, .getfield 800, .iload 1, .if_icmp .le 52, .aload 0, .getfield 796, .aload 0, .getfield 800, .iconst 1, .isub, .iaload, .invokestatic 187, .iload 2, .if_icmp .lt 52, .aload 0, .dup, .getfield 800, .iconst 1, .isub, .putfield 800, .aload 0, .aload 0, .getfield 796, .aload 0, .getfield 800, .iaload, .invokevirtual 184, .goto 0] ++ m_fl (s_188.drop 1) from rfl).trans (by rw [fl_188_1]; rfl)
theorem tn_188_0 {L : Nat} {xs : Nat → Int32} : m_tg (p_P L xs) 188 0 = k_188_0 := (show m_tgl s_188 0 = m_fl (s_188.drop 0) from rfl).trans fl_188_0
theorem tg_188_0 {L : Nat} {xs : Nat → Int32} : m_tg (p_P L xs) 188 0 = k_188_0 := (show m_tgl s_188 0 = m_fl (s_188.drop 0) from rfl).trans fl_188_0
theorem tg_188_52 {L : Nat} {xs : Nat → Int32} : m_tg (p_P L xs) 188 52 = k_188_52 := (show m_tgl s_188 52 = m_fl (s_188.drop 1) from rfl).trans fl_188_1
noncomputable def k_189_28 : List Instr := .iconst 0 :: .ret 0 :: []
theorem fl_189_3 : m_fl (s_189.drop 3) = k_189_28 := rfl
noncomputable def k_189_22 : List Instr := .iinc 2 1 :: .goto 2 :: k_189_28
theorem fl_189_2 : m_fl (s_189.drop 2) = k_189_22 := (show m_fl (s_189.drop 2) = [.iinc 2 1, .goto 2] ++ m_fl (s_189.drop 3) from rfl).trans (by rw [fl_189_3]; rfl)
noncomputable def k_189_2 : List Instr := .iload 2 :: .aload 0 :: .getfield 800 :: .if_icmp .ge 28 :: .aload 0 :: .getfield 796 :: .iload 2 :: .iaload :: .iconst 2 :: .if_icmp .ne 22 :: .iconst 1 :: .ret 0 :: k_189_22
theorem fl_189_1 : m_fl (s_189.drop 1) = k_189_2 := (show m_fl (s_189.drop 1) = [.iload 2, .aload 0, .getfield 800, .if_icmp .ge 28, .aload 0, .getfield 796, .iload 2, .iaload, .iconst 2, .if_icmp .ne 22, .iconst 1, .ret 0] ++ m_fl (s_189.drop 2) from rfl).trans (by rw [fl_189_2]; rfl)
noncomputable def k_189_0 : List Instr := .iload 1 :: .istore 2 :: k_189_2
theorem fl_189_0 : m_fl (s_189.drop 0) = k_189_0 := (show m_fl (s_189.drop 0) = [.iload 1, .istore 2] ++ m_fl (s_189.drop 1) from rfl).trans (by rw [fl_189_1]; rfl)
theorem tn_189_0 {L : Nat} {xs : Nat → Int32} : m_tg (p_P L xs) 189 0 = k_189_0 := (show m_tgl s_189 0 = m_fl (s_189.drop 0) from rfl).trans fl_189_0
theorem tg_189_2 {L : Nat} {xs : Nat → Int32} : m_tg (p_P L xs) 189 2 = k_189_2 := (show m_tgl s_189 2 = m_fl (s_189.drop 1) from rfl).trans fl_189_1
theorem tg_189_22 {L : Nat} {xs : Nat → Int32} : m_tg (p_P L xs) 189 22 = k_189_22 := (show m_tgl s_189 22 = m_fl (s_189.drop 2) from rfl).trans fl_189_2
theorem tg_189_28 {L : Nat} {xs : Nat → Int32} : m_tg (p_P L xs) 189 28 = k_189_28 := (show m_tgl s_189 28 = m_fl (s_189.drop 3) from rfl).trans fl_189_3
noncomputable def k_190_43 : List Instr := .ireturn :: []
theorem fl_190_4 : m_fl (s_190.drop 4) = k_190_43 := rfl
noncomputable def k_190_42 : List Instr := .iconst 0 :: k_190_43
theorem fl_190_3 : m_fl (s_190.drop 3) = k_190_42 := (show m_fl (s_190.drop 3) = [.iconst 0] ++ m_fl (s_190.drop 4) from rfl).trans (by rw [fl_190_4]; rfl)
noncomputable def k_190_28 : List Instr := .aload 0 :: .iconst 45 :: .invokevirtual 174 :: .ifCond .eq 42 :: .iconst 27 :: .goto 43 :: k_190_42
theorem fl_190_2 : m_fl (s_190.drop 2) = k_190_28 := (show m_fl (s_190.drop 2) = [.aload 0, .iconst 45, .invokevirtual 174, .ifCond .eq 42, .iconst 27, .goto 43] ++ m_fl (s_190.drop 3) from rfl).trans (by rw [fl_190_3]; rfl)
noncomputable def k_190_14 : List Instr := .aload 0 :: .iconst 43 :: .invokevirtual 174 :: .ifCond .eq 28 :: .iconst 26 :: .goto 43 :: k_190_28
theorem fl_190_1 : m_fl (s_190.drop 1) = k_190_14 := (show m_fl (s_190.drop 1) = [.aload 0, .iconst 43, .invokevirtual 174, .ifCond .eq 28, .iconst 26, .goto 43] ++ m_fl (s_190.drop 2) from rfl).trans (by rw [fl_190_2]; rfl)
noncomputable def k_190_0 : List Instr := .aload 0 :: .iconst 42 :: .invokevirtual 174 :: .ifCond .eq 14 :: .iconst 28 :: .goto 43 :: k_190_14
theorem fl_190_0 : m_fl (s_190.drop 0) = k_190_0 := (show m_fl (s_190.drop 0) = [.aload 0, .iconst 42, .invokevirtual 174, .ifCond .eq 14, .iconst 28, .goto 43] ++ m_fl (s_190.drop 1) from rfl).trans (by rw [fl_190_1]; rfl)
theorem tn_190_0 {L : Nat} {xs : Nat → Int32} : m_tg (p_P L xs) 190 0 = k_190_0 := (show m_tgl s_190 0 = m_fl (s_190.drop 0) from rfl).trans fl_190_0
theorem tg_190_14 {L : Nat} {xs : Nat → Int32} : m_tg (p_P L xs) 190 14 = k_190_14 := (show m_tgl s_190 14 = m_fl (s_190.drop 1) from rfl).trans fl_190_1
theorem tg_190_28 {L : Nat} {xs : Nat → Int32} : m_tg (p_P L xs) 190 28 = k_190_28 := (show m_tgl s_190 28 = m_fl (s_190.drop 2) from rfl).trans fl_190_2
theorem tg_190_42 {L : Nat} {xs : Nat → Int32} : m_tg (p_P L xs) 190 42 = k_190_42 := (show m_tgl s_190 42 = m_fl (s_190.drop 3) from rfl).trans fl_190_3
theorem tg_190_43 {L : Nat} {xs : Nat → Int32} : m_tg (p_P L xs) 190 43 = k_190_43 := (show m_tgl s_190 43 = m_fl (s_190.drop 4) from rfl).trans fl_190_4
noncomputable def k_191_178 : List Instr := .return_ :: []
theorem fl_191_11 : m_fl (s_191.drop 11) = k_191_178 := rfl
noncomputable def k_191_165 : List Instr := .aload 0 :: .invokevirtual 171 :: .ifCond .eq 178 :: .aload 0 :: .iload 1 :: .iconst 2 :: .invokevirtual 188 :: k_191_178
theorem fl_191_10 : m_fl (s_191.drop 10) = k_191_165 := (show m_fl (s_191.drop 10) = [.aload 0, .invokevirtual 171, .ifCond .eq 178, .aload 0, .iload 1, .iconst 2, .invokevirtual 188] ++ m_fl (s_191.drop 11) from rfl).trans (by rw [fl_191_11]; rfl)
noncomputable def k_191_144 : List Instr := .aload 0 :: .invokevirtual 171 :: .ifCond .eq 165 :: .aload 0 :: .iload 1 :: .invokevirtual 189 :: .ifCond .eq 165 :: .aload 0 :: .iconst 1 :: .invokevirtual 170 :: .pop :: k_191_165
theorem fl_191_9 : m_fl (s_191.drop 9) = k_191_144 := (show m_fl (s_191.drop 9) = [.aload 0, .invokevirtual 171, .ifCond .eq 165, .aload 0, .iload 1, .invokevirtual 189, .ifCond .eq 165, .aload 0, .iconst 1, .invokevirtual 170, .pop] ++ m_fl (s_191.drop 10) from rfl).trans (by rw [fl_191_10]; rfl)
noncomputable def k_191_108 : List Instr := .aload 0 :: .iload 1 :: .iload 3 :: .invokestatic 187 :: .invokevirtual 188 :: .aload 0 :: .getfield 796 :: .aload 0 :: .getfield 800 :: .iload 3 :: .iastore :: .aload 0 :: .dup :: .getfield 800 :: .iconst 1 :: .iadd :: .putfield 800 :: .aload 0 :: .invokevirtual 168 :: .goto 10 :: k_191_144
theorem fl_191_8 : m_fl (s_191.drop 8) = k_191_108 := (show m_fl (s_191.drop 8) = [.aload 0, .iload 1, .iload 3, .invokestatic 187, .invokevirtual 188, .aload 0, .getfield 796, .aload 0, .getfield 800, .iload 3, .iastore, .aload 0, .dup, .getfield 800, .iconst 1, .iadd, .putfield 800, .aload 0, .invokevirtual 168, .goto 10] ++ m_fl (s_191.drop 9) from rfl).trans (by rw [fl_191_9]; rfl)
noncomputable def k_191_100 : List Instr := .istore 2 :: .iload 2 :: .ifCond .ne 108 :: .goto 10 :: k_191_108
theorem fl_191_7 : m_fl (s_191.drop 7) = k_191_100 := (show m_fl (s_191.drop 7) = [.istore 2, .iload 2, .ifCond .ne 108, .goto 10] ++ m_fl (s_191.drop 8) from rfl).trans (by rw [fl_191_8]; rfl)
noncomputable def k_191_99 : List Instr := .iconst 0 :: k_191_100
theorem fl_191_6 : m_fl (s_191.drop 6) = k_191_99 := (show m_fl (s_191.drop 6) = [.iconst 0] ++ m_fl (s_191.drop 7) from rfl).trans (by rw [fl_191_7]; rfl)
noncomputable def k_191_86 : List Instr := .aload 0 :: .invokevirtual 190 :: .istore 3 :: .iload 3 :: .ifCond .eq 99 :: .iconst 1 :: .goto 100 :: k_191_99
theorem fl_191_5 : m_fl (s_191.drop 5) = k_191_86 := (show m_fl (s_191.drop 5) = [.aload 0, .invokevirtual 190, .istore 3, .iload 3, .ifCond .eq 99, .iconst 1, .goto 100] ++ m_fl (s_191.drop 6) from rfl).trans (by rw [fl_191_6]; rfl)
noncomputable def k_191_36 : List Instr := .aload 0 :: .iconst 41 :: .invokevirtual 174 :: .ifCond .eq 86 :: .aload 0 :: .iload 1 :: .invokevirtual 189 :: .ifCond .eq 86 :: .aload 0 :: .iload 1 :: .iconst 2 :: .invokevirtual 188 :: .aload 0 :: .dup :: .getfield 800 :: .iconst 1 :: .isub :: .putfield 800 :: .aload 0 :: .dup :: .getfield 801 :: .iconst 1 :: .isub :: .putfield 801 :: .aload 0 :: .invokevirtual 168 :: .goto 36 :: k_191_86
theorem fl_191_4 : m_fl (s_191.drop 4) = k_191_36 := (show m_fl (s_191.drop 4) = [.aload 0, .iconst 41, .invokevirtual 174, .ifCond .eq 86, .aload 0, .iload 1, .invokevirtual 189, .ifCond .eq 86, .aload 0, .iload 1, .iconst 2, .invokevirtual 188, .aload 0, .dup, .getfield 800, .iconst 1, .isub, .putfield 800, .aload 0, .dup, .getfield 801, .iconst 1, .isub, .putfield 801, .aload 0, .invokevirtual 168, .goto 36] ++ m_fl (s_191.drop 5) from rfl).trans (by rw [fl_191_5]; rfl)
noncomputable def k_191_32 : List Instr := .aload 0 :: .invokevirtual 186 :: k_191_36
theorem fl_191_3 : m_fl (s_191.drop 3) = k_191_32 := (show m_fl (s_191.drop 3) = [.aload 0, .invokevirtual 186] ++ m_fl (s_191.drop 4) from rfl).trans (by rw [fl_191_4]; rfl)
noncomputable def k_191_14 : List Instr := .aload 0 :: .iconst 40 :: .invokevirtual 174 :: .ifCond .eq 32 :: .aload 0 :: .iconst 2 :: .invokevirtual 185 :: .ifCond .ne 14 :: .return_ :: k_191_32
theorem fl_191_2 : m_fl (s_191.drop 2) = k_191_14 := (show m_fl (s_191.drop 2) = [.aload 0, .iconst 40, .invokevirtual 174, .ifCond .eq 32, .aload 0, .iconst 2, .invokevirtual 185, .ifCond .ne 14, .return_] ++ m_fl (s_191.drop 3) from rfl).trans (by rw [fl_191_3]; rfl)
noncomputable def k_191_10 : List Instr := .iload 2 :: .ifCond .eq 144 :: k_191_14
theorem fl_191_1 : m_fl (s_191.drop 1) = k_191_10 := (show m_fl (s_191.drop 1) = [.iload 2, .ifCond .eq 144] ++ m_fl (s_191.drop 2) from rfl).trans (by rw [fl_191_2]; rfl)
noncomputable def k_191_0 : List Instr := .aload 0 :: .getfield 800 :: .istore 1 :: .aload 0 :: .invokevirtual 171 :: .istore 2 :: k_191_10
theorem fl_191_0 : m_fl (s_191.drop 0) = k_191_0 := (show m_fl (s_191.drop 0) = [.aload 0, .getfield 800, .istore 1, .aload 0, .invokevirtual 171, .istore 2] ++ m_fl (s_191.drop 1) from rfl).trans (by rw [fl_191_1]; rfl)
theorem tn_191_0 {L : Nat} {xs : Nat → Int32} : m_tg (p_P L xs) 191 0 = k_191_0 := (show m_tgl s_191 0 = m_fl (s_191.drop 0) from rfl).trans fl_191_0
theorem tg_191_10 {L : Nat} {xs : Nat → Int32} : m_tg (p_P L xs) 191 10 = k_191_10 := (show m_tgl s_191 10 = m_fl (s_191.drop 1) from rfl).trans fl_191_1
theorem tg_191_14 {L : Nat} {xs : Nat → Int32} : m_tg (p_P L xs) 191 14 = k_191_14 := (show m_tgl s_191 14 = m_fl (s_191.drop 2) from rfl).trans fl_191_2
theorem tg_191_32 {L : Nat} {xs : Nat → Int32} : m_tg (p_P L xs) 191 32 = k_191_32 := (show m_tgl s_191 32 = m_fl (s_191.drop 3) from rfl).trans fl_191_3
theorem tg_191_36 {L : Nat} {xs : Nat → Int32} : m_tg (p_P L xs) 191 36 = k_191_36 := (show m_tgl s_191 36 = m_fl (s_191.drop 4) from rfl).trans fl_191_4
theorem tg_191_86 {L : Nat} {xs : Nat → Int32} : m_tg (p_P L xs) 191 86 = k_191_86 := (show m_tgl s_191 86 = m_fl (s_191.drop 5) from rfl).trans fl_191_5
theorem tg_191_99 {L : Nat} {xs : Nat → Int32} : m_tg (p_P L xs) 191 99 = k_191_99 := (show m_tgl s_191 99 = m_fl (s_191.drop 6) from rfl).trans fl_191_6
theorem tg_191_100 {L : Nat} {xs : Nat → Int32} : m_tg (p_P L xs) 191 100 = k_191_100 := (show m_tgl s_191 100 = m_fl (s_191.drop 7) from rfl).trans fl_191_7
theorem tg_191_108 {L : Nat} {xs : Nat → Int32} : m_tg (p_P L xs) 191 108 = k_191_108 := (show m_tgl s_191 108 = m_fl (s_191.drop 8) from rfl).trans fl_191_8
theorem tg_191_144 {L : Nat} {xs : Nat → Int32} : m_tg (p_P L xs) 191 144 = k_191_144 := (show m_tgl s_191 144 = m_fl (s_191.drop 9) from rfl).trans fl_191_9
theorem tg_191_165 {L : Nat} {xs : Nat → Int32} : m_tg (p_P L xs) 191 165 = k_191_165 := (show m_tgl s_191 165 = m_fl (s_191.drop 10) from rfl).trans fl_191_10
theorem tg_191_178 {L : Nat} {xs : Nat → Int32} : m_tg (p_P L xs) 191 178 = k_191_178 := (show m_tgl s_191 178 = m_fl (s_191.drop 11) from rfl).trans fl_191_11
noncomputable def k_192_58 : List Instr := .aload 0 :: .iload 1 :: .invokevirtual 184 :: .aload 0 :: .invokevirtual 168 :: .return_ :: []
theorem fl_192_4 : m_fl (s_192.drop 4) = k_192_58 := rfl
noncomputable def k_192_50 : List Instr := .aload 0 :: .invokevirtual 171 :: .ifCond .ne 58 :: .return_ :: k_192_58
theorem fl_192_3 : m_fl (s_192.drop 3) = k_192_50 := (show m_fl (s_192.drop 3) = [.aload 0, .invokevirtual 171, .ifCond .ne 58, .return_] ++ m_fl (s_192.drop 4) from rfl).trans (by rw [fl_192_4]; rfl)
noncomputable def k_192_34 : List Instr := .aload 0 :: .invokevirtual 180 :: .istore 1 :: .iload 1 :: .iconst (-1) :: .if_icmp .ne 50 :: .aload 0 :: .iconst 1 :: .invokevirtual 170 :: .pop :: k_192_50
theorem fl_192_2 : m_fl (s_192.drop 2) = k_192_34 := (show m_fl (s_192.drop 2) = [.aload 0, .invokevirtual 180, .istore 1, .iload 1, .iconst (-1), .if_icmp .ne 50, .aload 0, .iconst 1, .invokevirtual 170, .pop] ++ m_fl (s_192.drop 3) from rfl).trans (by rw [fl_192_3]; rfl)
noncomputable def k_192_8 : List Instr := .aload 0 :: .getfield 791 :: .iconst 2 :: .if_icmp .ne 34 :: .aload 0 :: .iconst 0 :: .iconst (99999) :: .invokevirtual 176 :: .istore 1 :: .aload 0 :: .iconst 1000 :: .iload 1 :: .iadd :: .invokevirtual 184 :: .return_ :: k_192_34
theorem fl_192_1 : m_fl (s_192.drop 1) = k_192_8 := (show m_fl (s_192.drop 1) = [.aload 0, .getfield 791, .iconst 2, .if_icmp .ne 34, .aload 0, .iconst 0, .iconst (99999), .invokevirtual 176, .istore 1, .aload 0, .iconst 1000, .iload 1, .iadd, .invokevirtual 184, .return_] ++ m_fl (s_192.drop 2) from rfl).trans (by rw [fl_192_2]; rfl)
noncomputable def k_192_0 : List Instr := .aload 0 :: .invokevirtual 171 :: .ifCond .ne 8 :: .return_ :: k_192_8
theorem fl_192_0 : m_fl (s_192.drop 0) = k_192_0 := (show m_fl (s_192.drop 0) = [.aload 0, .invokevirtual 171, .ifCond .ne 8, .return_] ++ m_fl (s_192.drop 1) from rfl).trans (by rw [fl_192_1]; rfl)
theorem tn_192_0 {L : Nat} {xs : Nat → Int32} : m_tg (p_P L xs) 192 0 = k_192_0 := (show m_tgl s_192 0 = m_fl (s_192.drop 0) from rfl).trans fl_192_0
theorem tg_192_8 {L : Nat} {xs : Nat → Int32} : m_tg (p_P L xs) 192 8 = k_192_8 := (show m_tgl s_192 8 = m_fl (s_192.drop 1) from rfl).trans fl_192_1
theorem tg_192_34 {L : Nat} {xs : Nat → Int32} : m_tg (p_P L xs) 192 34 = k_192_34 := (show m_tgl s_192 34 = m_fl (s_192.drop 2) from rfl).trans fl_192_2
theorem tg_192_50 {L : Nat} {xs : Nat → Int32} : m_tg (p_P L xs) 192 50 = k_192_50 := (show m_tgl s_192 50 = m_fl (s_192.drop 3) from rfl).trans fl_192_3
theorem tg_192_58 {L : Nat} {xs : Nat → Int32} : m_tg (p_P L xs) 192 58 = k_192_58 := (show m_tgl s_192 58 = m_fl (s_192.drop 4) from rfl).trans fl_192_4
noncomputable def k_193_18 : List Instr := .return_ :: []
theorem fl_193_2 : m_fl (s_193.drop 2) = k_193_18 := rfl
noncomputable def k_193_14 : List Instr := .aload 0 :: .invokevirtual 191 :: k_193_18
theorem fl_193_1 : m_fl (s_193.drop 1) = k_193_14 := (show m_fl (s_193.drop 1) = [.aload 0, .invokevirtual 191] ++ m_fl (s_193.drop 2) from rfl).trans (by rw [fl_193_2]; rfl)
noncomputable def k_193_0 : List Instr := .aload 0 :: .getfield 803 :: .ifCond .eq 14 :: .aload 0 :: .invokevirtual 192 :: .goto 18 :: k_193_14
theorem fl_193_0 : m_fl (s_193.drop 0) = k_193_0 := (show m_fl (s_193.drop 0) = [.aload 0, .getfield 803, .ifCond .eq 14, .aload 0, .invokevirtual 192, .goto 18] ++ m_fl (s_193.drop 1) from rfl).trans (by rw [fl_193_1]; rfl)
theorem tn_193_0 {L : Nat} {xs : Nat → Int32} : m_tg (p_P L xs) 193 0 = k_193_0 := (show m_tgl s_193 0 = m_fl (s_193.drop 0) from rfl).trans fl_193_0
theorem tg_193_14 {L : Nat} {xs : Nat → Int32} : m_tg (p_P L xs) 193 14 = k_193_14 := (show m_tgl s_193 14 = m_fl (s_193.drop 1) from rfl).trans fl_193_1
theorem tg_193_18 {L : Nat} {xs : Nat → Int32} : m_tg (p_P L xs) 193 18 = k_193_18 := (show m_tgl s_193 18 = m_fl (s_193.drop 2) from rfl).trans fl_193_2
noncomputable def k_194_31 : List Instr := .ireturn :: []
theorem fl_194_4 : m_fl (s_194.drop 4) = k_194_31 := rfl
noncomputable def k_194_30 : List Instr := .iconst 0 :: k_194_31
theorem fl_194_3 : m_fl (s_194.drop 3) = k_194_30 := (show m_fl (s_194.drop 3) = [.iconst 0] ++ m_fl (s_194.drop 4) from rfl).trans (by rw [fl_194_4]; rfl)
noncomputable def k_194_20 : List Instr := .iload 0 :: .iconst 23 :: .if_icmp .ne 30 :: .iconst 3 :: .goto 31 :: k_194_30
theorem fl_194_2 : m_fl (s_194.drop 2) = k_194_20 := (show m_fl (s_194.drop 2) = [.iload 0, .iconst 23, .if_icmp .ne 30, .iconst 3, .goto 31] ++ m_fl (s_194.drop 3) from rfl).trans (by rw [fl_194_3]; rfl)
noncomputable def k_194_10 : List Instr := .iload 0 :: .iconst 24 :: .if_icmp .ne 20 :: .iconst 2 :: .goto 31 :: k_194_20
theorem fl_194_1 : m_fl (s_194.drop 1) = k_194_10 := (show m_fl (s_194.drop 1) = [.iload 0, .iconst 24, .if_icmp .ne 20, .iconst 2, .goto 31] ++ m_fl (s_194.drop 2) from rfl).trans (by rw [fl_194_2]; rfl)
noncomputable def k_194_0 : List Instr := .iload 0 :: .iconst 25 :: .if_icmp .ne 10 :: .iconst 1 :: .goto 31 :: k_194_10
theorem fl_194_0 : m_fl (s_194.drop 0) = k_194_0 := (show m_fl (s_194.drop 0) = [.iload 0, .iconst 25, .if_icmp .ne 10, .iconst 1, .goto 31] ++ m_fl (s_194.drop 1) from rfl).trans (by rw [fl_194_1]; rfl)
theorem tn_194_0 {L : Nat} {xs : Nat → Int32} : m_tg (p_P L xs) 194 0 = k_194_0 := (show m_tgl s_194 0 = m_fl (s_194.drop 0) from rfl).trans fl_194_0
theorem tg_194_10 {L : Nat} {xs : Nat → Int32} : m_tg (p_P L xs) 194 10 = k_194_10 := (show m_tgl s_194 10 = m_fl (s_194.drop 1) from rfl).trans fl_194_1
theorem tg_194_20 {L : Nat} {xs : Nat → Int32} : m_tg (p_P L xs) 194 20 = k_194_20 := (show m_tgl s_194 20 = m_fl (s_194.drop 2) from rfl).trans fl_194_2
theorem tg_194_30 {L : Nat} {xs : Nat → Int32} : m_tg (p_P L xs) 194 30 = k_194_30 := (show m_tgl s_194 30 = m_fl (s_194.drop 3) from rfl).trans fl_194_3
theorem tg_194_31 {L : Nat} {xs : Nat → Int32} : m_tg (p_P L xs) 194 31 = k_194_31 := (show m_tgl s_194 31 = m_fl (s_194.drop 4) from rfl).trans fl_194_4
noncomputable def k_195_82 : List Instr := .return_ :: []
theorem fl_195_1 : m_fl (s_195.drop 1) = k_195_82 := rfl
noncomputable def k_195_0 : List Instr := .aload 0 :: .invokevirtual 171 :: .ifCond .eq 82 :: .aload 0 :: .getfield 800 :: .ifCond .le 82 :: .aload 0 :: .getfield 796 :: .aload 0 :: .getfield 800 :: .iconst 1 :: .isub :: .iaload :: .invokestatic 194 :: .iload 1 :: .if_icmp .lt 82 :: .aload 0 :: .dup :: .getfield 800 :: .iconst 1 :: .isub :: .putfield 800 :: .aload 0 :: .aload 0 :: .getfield 796 :: .aload 0 :: .getfield 800 :: .iaload :: .invokevirtual 184 :: .aload 0 :: .getfield 796 :: .aload 0 :: .getfield 800 :: .iaload :: .iconst 23 :: .if_icmp .ne 0 :: .aload 0 :: .dup :: .getfield 801 :: .iconst 1 :: .isub :: .putfield 801 :: .goto 0 :: k_195_82
theorem fl_195_0 : m_fl (s_195.drop 0) = k_195_0 := (show m_fl (s_195.drop 0) = [.aload 0, .invokevirtual 171, .ifCond .eq 82, .aload 0, .getfield 800, .ifCond .le 82, .aload 0, .getfield 796, .aload 0, .getfield 800, .iconst 1, .isub, .iaload, .invokestatic 194, .iload 1, .if_icmp .lt 82, .aload 0, .dup, .getfield 800, .iconst 1, .isub, .putfield 800, .aload 0, .aload 0, .getfield 796, .aload 0, .getfield 800, .iaload, .invokevirtual 184, .aload 0, .getfield 796, .aload 0, .getfield 800, .iaload, .iconst 23, .if_icmp .ne 0, .aload 0, .dup, .getfield 801, .iconst 1, .isub, .putfield 801, .goto 0] ++ m_fl (s_195.drop 1) from rfl).trans (by rw [fl_195_1]; rfl)
theorem tn_195_0 {L : Nat} {xs : Nat → Int32} : m_tg (p_P L xs) 195 0 = k_195_0 := (show m_tgl s_195 0 = m_fl (s_195.drop 0) from rfl).trans fl_195_0
theorem tg_195_0 {L : Nat} {xs : Nat → Int32} : m_tg (p_P L xs) 195 0 = k_195_0 := (show m_tgl s_195 0 = m_fl (s_195.drop 0) from rfl).trans fl_195_0
theorem tg_195_82 {L : Nat} {xs : Nat → Int32} : m_tg (p_P L xs) 195 82 = k_195_82 := (show m_tgl s_195 82 = m_fl (s_195.drop 1) from rfl).trans fl_195_1
noncomputable def k_196_28 : List Instr := .iconst 0 :: .ret 0 :: []
theorem fl_196_3 : m_fl (s_196.drop 3) = k_196_28 := rfl
noncomputable def k_196_22 : List Instr := .iinc 1 1 :: .goto 2 :: k_196_28
theorem fl_196_2 : m_fl (s_196.drop 2) = k_196_22 := (show m_fl (s_196.drop 2) = [.iinc 1 1, .goto 2] ++ m_fl (s_196.drop 3) from rfl).trans (by rw [fl_196_3]; rfl)
noncomputable def k_196_2 : List Instr := .iload 1 :: .aload 0 :: .getfield 800 :: .if_icmp .ge 28 :: .aload 0 :: .getfield 796 :: .iload 1 :: .iaload :: .iconst 1 :: .if_icmp .ne 22 :: .iconst 1 :: .ret 0 :: k_196_22
theorem fl_196_1 : m_fl (s_196.drop 1) = k_196_2 := (show m_fl (s_196.drop 1) = [.iload 1, .aload 0, .getfield 800, .if_icmp .ge 28, .aload 0, .getfield 796, .iload 1, .iaload, .iconst 1, .if_icmp .ne 22, .iconst 1, .ret 0] ++ m_fl (s_196.drop 2) from rfl).trans (by rw [fl_196_2]; rfl)
noncomputable def k_196_0 : List Instr := .iconst 0 :: .istore 1 :: k_196_2
theorem fl_196_0 : m_fl (s_196.drop 0) = k_196_0 := (show m_fl (s_196.drop 0) = [.iconst 0, .istore 1] ++ m_fl (s_196.drop 1) from rfl).trans (by rw [fl_196_1]; rfl)
theorem tn_196_0 {L : Nat} {xs : Nat → Int32} : m_tg (p_P L xs) 196 0 = k_196_0 := (show m_tgl s_196 0 = m_fl (s_196.drop 0) from rfl).trans fl_196_0
theorem tg_196_2 {L : Nat} {xs : Nat → Int32} : m_tg (p_P L xs) 196 2 = k_196_2 := (show m_tgl s_196 2 = m_fl (s_196.drop 1) from rfl).trans fl_196_1
theorem tg_196_22 {L : Nat} {xs : Nat → Int32} : m_tg (p_P L xs) 196 22 = k_196_22 := (show m_tgl s_196 22 = m_fl (s_196.drop 2) from rfl).trans fl_196_2
theorem tg_196_28 {L : Nat} {xs : Nat → Int32} : m_tg (p_P L xs) 196 28 = k_196_28 := (show m_tgl s_196 28 = m_fl (s_196.drop 3) from rfl).trans fl_196_3
noncomputable def k_197_15 : List Instr := .invokevirtual 174 :: .ret 0 :: []
theorem fl_197_2 : m_fl (s_197.drop 2) = k_197_15 := rfl
noncomputable def k_197_13 : List Instr := .iconst 91 :: k_197_15
theorem fl_197_1 : m_fl (s_197.drop 1) = k_197_13 := (show m_fl (s_197.drop 1) = [.iconst 91] ++ m_fl (s_197.drop 2) from rfl).trans (by rw [fl_197_2]; rfl)
noncomputable def k_197_0 : List Instr := .aload 0 :: .aload 0 :: .getfield 803 :: .ifCond .eq 13 :: .iconst 40 :: .goto 15 :: k_197_13
theorem fl_197_0 : m_fl (s_197.drop 0) = k_197_0 := (show m_fl (s_197.drop 0) = [.aload 0, .aload 0, .getfield 803, .ifCond .eq 13, .iconst 40, .goto 15] ++ m_fl (s_197.drop 1) from rfl).trans (by rw [fl_197_1]; rfl)
theorem tn_197_0 {L : Nat} {xs : Nat → Int32} : m_tg (p_P L xs) 197 0 = k_197_0 := (show m_tgl s_197 0 = m_fl (s_197.drop 0) from rfl).trans fl_197_0
theorem tg_197_13 {L : Nat} {xs : Nat → Int32} : m_tg (p_P L xs) 197 13 = k_197_13 := (show m_tgl s_197 13 = m_fl (s_197.drop 1) from rfl).trans fl_197_1
theorem tg_197_15 {L : Nat} {xs : Nat → Int32} : m_tg (p_P L xs) 197 15 = k_197_15 := (show m_tgl s_197 15 = m_fl (s_197.drop 2) from rfl).trans fl_197_2
noncomputable def k_198_125 : List Instr := .return_ :: []
theorem fl_198_10 : m_fl (s_198.drop 10) = k_198_125 := rfl
noncomputable def k_198_105 : List Instr := .aload 0 :: .invokevirtual 168 :: .aload 0 :: .invokevirtual 193 :: .aload 0 :: .invokevirtual 171 :: .ifCond .eq 125 :: .aload 0 :: .iload 1 :: .invokevirtual 184 :: k_198_125
theorem fl_198_9 : m_fl (s_198.drop 9) = k_198_105 := (show m_fl (s_198.drop 9) = [.aload 0, .invokevirtual 168, .aload 0, .invokevirtual 193, .aload 0, .invokevirtual 171, .ifCond .eq 125, .aload 0, .iload 1, .invokevirtual 184] ++ m_fl (s_198.drop 10) from rfl).trans (by rw [fl_198_10]; rfl)
noncomputable def k_198_97 : List Instr := .aload 0 :: .invokevirtual 171 :: .ifCond .ne 105 :: .return_ :: k_198_105
theorem fl_198_8 : m_fl (s_198.drop 8) = k_198_97 := (show m_fl (s_198.drop 8) = [.aload 0, .invokevirtual 171, .ifCond .ne 105, .return_] ++ m_fl (s_198.drop 9) from rfl).trans (by rw [fl_198_9]; rfl)
noncomputable def k_198_75 : List Instr := .istore 1 :: .iload 1 :: .iconst 21 :: .if_icmp .ne 97 :: .aload 0 :: .iconst 61 :: .invokevirtual 174 :: .ifCond .ne 97 :: .aload 0 :: .iconst 1 :: .invokevirtual 170 :: .pop :: k_198_97
theorem fl_198_7 : m_fl (s_198.drop 7) = k_198_75 := (show m_fl (s_198.drop 7) = [.istore 1, .iload 1, .iconst 21, .if_icmp .ne 97, .aload 0, .iconst 61, .invokevirtual 174, .ifCond .ne 97, .aload 0, .iconst 1, .invokevirtual 170, .pop] ++ m_fl (s_198.drop 8) from rfl).trans (by rw [fl_198_8]; rfl)
noncomputable def k_198_73 : List Instr := .iconst 21 :: k_198_75
theorem fl_198_6 : m_fl (s_198.drop 6) = k_198_73 := (show m_fl (s_198.drop 6) = [.iconst 21] ++ m_fl (s_198.drop 7) from rfl).trans (by rw [fl_198_7]; rfl)
noncomputable def k_198_59 : List Instr := .aload 0 :: .iconst 62 :: .invokevirtual 174 :: .ifCond .eq 73 :: .iconst 22 :: .goto 75 :: k_198_73
theorem fl_198_5 : m_fl (s_198.drop 5) = k_198_59 := (show m_fl (s_198.drop 5) = [.aload 0, .iconst 62, .invokevirtual 174, .ifCond .eq 73, .iconst 22, .goto 75] ++ m_fl (s_198.drop 6) from rfl).trans (by rw [fl_198_6]; rfl)
noncomputable def k_198_41 : List Instr := .aload 0 :: .invokevirtual 193 :: .aload 0 :: .iconst 60 :: .invokevirtual 174 :: .ifCond .eq 59 :: .iconst 20 :: .goto 75 :: k_198_59
theorem fl_198_4 : m_fl (s_198.drop 4) = k_198_41 := (show m_fl (s_198.drop 4) = [.aload 0, .invokevirtual 193, .aload 0, .iconst 60, .invokevirtual 174, .ifCond .eq 59, .iconst 20, .goto 75] ++ m_fl (s_198.drop 5) from rfl).trans (by rw [fl_198_5]; rfl)
noncomputable def k_198_34 : List Instr := .invokevirtual 185 :: .ifCond .ne 0 :: .return_ :: k_198_41
theorem fl_198_3 : m_fl (s_198.drop 3) = k_198_34 := (show m_fl (s_198.drop 3) = [.invokevirtual 185, .ifCond .ne 0, .return_] ++ m_fl (s_198.drop 4) from rfl).trans (by rw [fl_198_4]; rfl)
noncomputable def k_198_33 : List Instr := .iconst 1 :: k_198_34
theorem fl_198_2 : m_fl (s_198.drop 2) = k_198_33 := (show m_fl (s_198.drop 2) = [.iconst 1] ++ m_fl (s_198.drop 3) from rfl).trans (by rw [fl_198_3]; rfl)
noncomputable def k_198_17 : List Instr := .aload 0 :: .aload 0 :: .ldc2_w 10631 :: .invokevirtual 172 :: .ifCond .eq 33 :: .iconst 23 :: .goto 34 :: k_198_33
theorem fl_198_1 : m_fl (s_198.drop 1) = k_198_17 := (show m_fl (s_198.drop 1) = [.aload 0, .aload 0, .ldc2_w 10631, .invokevirtual 172, .ifCond .eq 33, .iconst 23, .goto 34] ++ m_fl (s_198.drop 2) from rfl).trans (by rw [fl_198_2]; rfl)
noncomputable def k_198_0 : List Instr := .aload 0 :: .ldc2_w 10631 :: .invokevirtual 172 :: .ifCond .ne 17 :: .aload 0 :: .invokevirtual 197 :: .ifCond .eq 41 :: k_198_17
theorem fl_198_0 : m_fl (s_198.drop 0) = k_198_0 := (show m_fl (s_198.drop 0) = [.aload 0, .ldc2_w 10631, .invokevirtual 172, .ifCond .ne 17, .aload 0, .invokevirtual 197, .ifCond .eq 41] ++ m_fl (s_198.drop 1) from rfl).trans (by rw [fl_198_1]; rfl)
theorem tn_198_0 {L : Nat} {xs : Nat → Int32} : m_tg (p_P L xs) 198 0 = k_198_0 := (show m_tgl s_198 0 = m_fl (s_198.drop 0) from rfl).trans fl_198_0
theorem tg_198_17 {L : Nat} {xs : Nat → Int32} : m_tg (p_P L xs) 198 17 = k_198_17 := (show m_tgl s_198 17 = m_fl (s_198.drop 1) from rfl).trans fl_198_1
theorem tg_198_33 {L : Nat} {xs : Nat → Int32} : m_tg (p_P L xs) 198 33 = k_198_33 := (show m_tgl s_198 33 = m_fl (s_198.drop 2) from rfl).trans fl_198_2
theorem tg_198_34 {L : Nat} {xs : Nat → Int32} : m_tg (p_P L xs) 198 34 = k_198_34 := (show m_tgl s_198 34 = m_fl (s_198.drop 3) from rfl).trans fl_198_3
theorem tg_198_41 {L : Nat} {xs : Nat → Int32} : m_tg (p_P L xs) 198 41 = k_198_41 := (show m_tgl s_198 41 = m_fl (s_198.drop 4) from rfl).trans fl_198_4
theorem tg_198_59 {L : Nat} {xs : Nat → Int32} : m_tg (p_P L xs) 198 59 = k_198_59 := (show m_tgl s_198 59 = m_fl (s_198.drop 5) from rfl).trans fl_198_5
theorem tg_198_73 {L : Nat} {xs : Nat → Int32} : m_tg (p_P L xs) 198 73 = k_198_73 := (show m_tgl s_198 73 = m_fl (s_198.drop 6) from rfl).trans fl_198_6
theorem tg_198_75 {L : Nat} {xs : Nat → Int32} : m_tg (p_P L xs) 198 75 = k_198_75 := (show m_tgl s_198 75 = m_fl (s_198.drop 7) from rfl).trans fl_198_7
theorem tg_198_97 {L : Nat} {xs : Nat → Int32} : m_tg (p_P L xs) 198 97 = k_198_97 := (show m_tgl s_198 97 = m_fl (s_198.drop 8) from rfl).trans fl_198_8
theorem tg_198_105 {L : Nat} {xs : Nat → Int32} : m_tg (p_P L xs) 198 105 = k_198_105 := (show m_tgl s_198 105 = m_fl (s_198.drop 9) from rfl).trans fl_198_9
theorem tg_198_125 {L : Nat} {xs : Nat → Int32} : m_tg (p_P L xs) 198 125 = k_198_125 := (show m_tgl s_198 125 = m_fl (s_198.drop 10) from rfl).trans fl_198_10
noncomputable def k_199_70 : List Instr := .return_ :: []
theorem fl_199_4 : m_fl (s_199.drop 4) = k_199_70 := rfl
noncomputable def k_199_20 : List Instr := .invokevirtual 174 :: .ifCond .eq 70 :: .aload 0 :: .invokevirtual 196 :: .ifCond .eq 70 :: .aload 0 :: .iconst 1 :: .invokevirtual 195 :: .aload 0 :: .dup :: .getfield 800 :: .iconst 1 :: .isub :: .putfield 800 :: .aload 0 :: .dup :: .getfield 801 :: .iconst 1 :: .isub :: .putfield 801 :: .aload 0 :: .invokevirtual 168 :: .aload 0 :: .iconst 3 :: .invokevirtual 195 :: .goto 5 :: k_199_70
theorem fl_199_3 : m_fl (s_199.drop 3) = k_199_20 := (show m_fl (s_199.drop 3) = [.invokevirtual 174, .ifCond .eq 70, .aload 0, .invokevirtual 196, .ifCond .eq 70, .aload 0, .iconst 1, .invokevirtual 195, .aload 0, .dup, .getfield 800, .iconst 1, .isub, .putfield 800, .aload 0, .dup, .getfield 801, .iconst 1, .isub, .putfield 801, .aload 0, .invokevirtual 168, .aload 0, .iconst 3, .invokevirtual 195, .goto 5] ++ m_fl (s_199.drop 4) from rfl).trans (by rw [fl_199_4]; rfl)
noncomputable def k_199_18 : List Instr := .iconst 93 :: k_199_20
theorem fl_199_2 : m_fl (s_199.drop 2) = k_199_18 := (show m_fl (s_199.drop 2) = [.iconst 93] ++ m_fl (s_199.drop 3) from rfl).trans (by rw [fl_199_3]; rfl)
noncomputable def k_199_5 : List Instr := .aload 0 :: .aload 0 :: .getfield 803 :: .ifCond .eq 18 :: .iconst 41 :: .goto 20 :: k_199_18
theorem fl_199_1 : m_fl (s_199.drop 1) = k_199_5 := (show m_fl (s_199.drop 1) = [.aload 0, .aload 0, .getfield 803, .ifCond .eq 18, .iconst 41, .goto 20] ++ m_fl (s_199.drop 2) from rfl).trans (by rw [fl_199_2]; rfl)
noncomputable def k_199_0 : List Instr := .aload 0 :: .iconst 3 :: .invokevirtual 195 :: k_199_5
theorem fl_199_0 : m_fl (s_199.drop 0) = k_199_0 := (show m_fl (s_199.drop 0) = [.aload 0, .iconst 3, .invokevirtual 195] ++ m_fl (s_199.drop 1) from rfl).trans (by rw [fl_199_1]; rfl)
theorem tn_199_0 {L : Nat} {xs : Nat → Int32} : m_tg (p_P L xs) 199 0 = k_199_0 := (show m_tgl s_199 0 = m_fl (s_199.drop 0) from rfl).trans fl_199_0
theorem tg_199_5 {L : Nat} {xs : Nat → Int32} : m_tg (p_P L xs) 199 5 = k_199_5 := (show m_tgl s_199 5 = m_fl (s_199.drop 1) from rfl).trans fl_199_1
theorem tg_199_18 {L : Nat} {xs : Nat → Int32} : m_tg (p_P L xs) 199 18 = k_199_18 := (show m_tgl s_199 18 = m_fl (s_199.drop 2) from rfl).trans fl_199_2
theorem tg_199_20 {L : Nat} {xs : Nat → Int32} : m_tg (p_P L xs) 199 20 = k_199_20 := (show m_tgl s_199 20 = m_fl (s_199.drop 3) from rfl).trans fl_199_3
theorem tg_199_70 {L : Nat} {xs : Nat → Int32} : m_tg (p_P L xs) 199 70 = k_199_70 := (show m_tgl s_199 70 = m_fl (s_199.drop 4) from rfl).trans fl_199_4
noncomputable def k_200_148 : List Instr := .aload 0 :: .iconst 1 :: .invokevirtual 195 :: .return_ :: []
theorem fl_200_11 : m_fl (s_200.drop 11) = k_200_148 := rfl
noncomputable def k_200_142 : List Instr := .aload 0 :: .iconst 1 :: .invokevirtual 170 :: .pop :: k_200_148
theorem fl_200_10 : m_fl (s_200.drop 10) = k_200_142 := (show m_fl (s_200.drop 10) = [.aload 0, .iconst 1, .invokevirtual 170, .pop] ++ m_fl (s_200.drop 11) from rfl).trans (by rw [fl_200_11]; rfl)
noncomputable def k_200_114 : List Instr := .aload 0 :: .invokevirtual 171 :: .ifCond .eq 148 :: .aload 0 :: .invokevirtual 196 :: .ifCond .ne 142 :: .aload 0 :: .getfield 803 :: .ifCond .eq 148 :: .aload 0 :: .getfield 791 :: .ifCond .eq 148 :: k_200_142
theorem fl_200_9 : m_fl (s_200.drop 9) = k_200_114 := (show m_fl (s_200.drop 9) = [.aload 0, .invokevirtual 171, .ifCond .eq 148, .aload 0, .invokevirtual 196, .ifCond .ne 142, .aload 0, .getfield 803, .ifCond .eq 148, .aload 0, .getfield 791, .ifCond .eq 148] ++ m_fl (s_200.drop 10) from rfl).trans (by rw [fl_200_10]; rfl)
noncomputable def k_200_79 : List Instr := .aload 0 :: .iload 2 :: .invokestatic 194 :: .invokevirtual 195 :: .aload 0 :: .getfield 796 :: .aload 0 :: .getfield 800 :: .iload 2 :: .iastore :: .aload 0 :: .dup :: .getfield 800 :: .iconst 1 :: .iadd :: .putfield 800 :: .aload 0 :: .invokevirtual 168 :: .goto 10 :: k_200_114
theorem fl_200_8 : m_fl (s_200.drop 8) = k_200_79 := (show m_fl (s_200.drop 8) = [.aload 0, .iload 2, .invokestatic 194, .invokevirtual 195, .aload 0, .getfield 796, .aload 0, .getfield 800, .iload 2, .iastore, .aload 0, .dup, .getfield 800, .iconst 1, .iadd, .putfield 800, .aload 0, .invokevirtual 168, .goto 10] ++ m_fl (s_200.drop 9) from rfl).trans (by rw [fl_200_9]; rfl)
noncomputable def k_200_71 : List Instr := .istore 1 :: .iload 1 :: .ifCond .ne 79 :: .goto 10 :: k_200_79
theorem fl_200_7 : m_fl (s_200.drop 7) = k_200_71 := (show m_fl (s_200.drop 7) = [.istore 1, .iload 1, .ifCond .ne 79, .goto 10] ++ m_fl (s_200.drop 8) from rfl).trans (by rw [fl_200_8]; rfl)
noncomputable def k_200_70 : List Instr := .iconst 0 :: k_200_71
theorem fl_200_6 : m_fl (s_200.drop 6) = k_200_70 := (show m_fl (s_200.drop 6) = [.iconst 0] ++ m_fl (s_200.drop 7) from rfl).trans (by rw [fl_200_7]; rfl)
noncomputable def k_200_61 : List Instr := .istore 2 :: .iload 2 :: .ifCond .eq 70 :: .iconst 1 :: .goto 71 :: k_200_70
theorem fl_200_5 : m_fl (s_200.drop 5) = k_200_61 := (show m_fl (s_200.drop 5) = [.istore 2, .iload 2, .ifCond .eq 70, .iconst 1, .goto 71] ++ m_fl (s_200.drop 6) from rfl).trans (by rw [fl_200_6]; rfl)
noncomputable def k_200_60 : List Instr := .iconst 0 :: k_200_61
theorem fl_200_4 : m_fl (s_200.drop 4) = k_200_60 := (show m_fl (s_200.drop 4) = [.iconst 0] ++ m_fl (s_200.drop 5) from rfl).trans (by rw [fl_200_5]; rfl)
noncomputable def k_200_45 : List Instr := .aload 0 :: .ldc2_w 423 :: .invokevirtual 172 :: .ifCond .eq 60 :: .iconst 25 :: .goto 61 :: k_200_60
theorem fl_200_3 : m_fl (s_200.drop 3) = k_200_45 := (show m_fl (s_200.drop 3) = [.aload 0, .ldc2_w 423, .invokevirtual 172, .ifCond .eq 60, .iconst 25, .goto 61] ++ m_fl (s_200.drop 4) from rfl).trans (by rw [fl_200_4]; rfl)
noncomputable def k_200_26 : List Instr := .aload 0 :: .invokevirtual 199 :: .aload 0 :: .ldc2_w 1111 :: .invokevirtual 172 :: .ifCond .eq 45 :: .iconst 24 :: .goto 61 :: k_200_45
theorem fl_200_2 : m_fl (s_200.drop 2) = k_200_26 := (show m_fl (s_200.drop 2) = [.aload 0, .invokevirtual 199, .aload 0, .ldc2_w 1111, .invokevirtual 172, .ifCond .eq 45, .iconst 24, .goto 61] ++ m_fl (s_200.drop 3) from rfl).trans (by rw [fl_200_3]; rfl)
noncomputable def k_200_10 : List Instr := .iload 1 :: .ifCond .eq 114 :: .aload 0 :: .invokevirtual 198 :: .aload 0 :: .invokevirtual 171 :: .ifCond .ne 26 :: .return_ :: k_200_26
theorem fl_200_1 : m_fl (s_200.drop 1) = k_200_10 := (show m_fl (s_200.drop 1) = [.iload 1, .ifCond .eq 114, .aload 0, .invokevirtual 198, .aload 0, .invokevirtual 171, .ifCond .ne 26, .return_] ++ m_fl (s_200.drop 2) from rfl).trans (by rw [fl_200_2]; rfl)
noncomputable def k_200_0 : List Instr := .aload 0 :: .iconst 0 :: .putfield 800 :: .aload 0 :: .invokevirtual 171 :: .istore 1 :: k_200_10
theorem fl_200_0 : m_fl (s_200.drop 0) = k_200_0 := (show m_fl (s_200.drop 0) = [.aload 0, .iconst 0, .putfield 800, .aload 0, .invokevirtual 171, .istore 1] ++ m_fl (s_200.drop 1) from rfl).trans (by rw [fl_200_1]; rfl)
theorem tn_200_0 {L : Nat} {xs : Nat → Int32} : m_tg (p_P L xs) 200 0 = k_200_0 := (show m_tgl s_200 0 = m_fl (s_200.drop 0) from rfl).trans fl_200_0
theorem tg_200_10 {L : Nat} {xs : Nat → Int32} : m_tg (p_P L xs) 200 10 = k_200_10 := (show m_tgl s_200 10 = m_fl (s_200.drop 1) from rfl).trans fl_200_1
theorem tg_200_26 {L : Nat} {xs : Nat → Int32} : m_tg (p_P L xs) 200 26 = k_200_26 := (show m_tgl s_200 26 = m_fl (s_200.drop 2) from rfl).trans fl_200_2
theorem tg_200_45 {L : Nat} {xs : Nat → Int32} : m_tg (p_P L xs) 200 45 = k_200_45 := (show m_tgl s_200 45 = m_fl (s_200.drop 3) from rfl).trans fl_200_3
theorem tg_200_60 {L : Nat} {xs : Nat → Int32} : m_tg (p_P L xs) 200 60 = k_200_60 := (show m_tgl s_200 60 = m_fl (s_200.drop 4) from rfl).trans fl_200_4
theorem tg_200_61 {L : Nat} {xs : Nat → Int32} : m_tg (p_P L xs) 200 61 = k_200_61 := (show m_tgl s_200 61 = m_fl (s_200.drop 5) from rfl).trans fl_200_5
theorem tg_200_70 {L : Nat} {xs : Nat → Int32} : m_tg (p_P L xs) 200 70 = k_200_70 := (show m_tgl s_200 70 = m_fl (s_200.drop 6) from rfl).trans fl_200_6
theorem tg_200_71 {L : Nat} {xs : Nat → Int32} : m_tg (p_P L xs) 200 71 = k_200_71 := (show m_tgl s_200 71 = m_fl (s_200.drop 7) from rfl).trans fl_200_7
theorem tg_200_79 {L : Nat} {xs : Nat → Int32} : m_tg (p_P L xs) 200 79 = k_200_79 := (show m_tgl s_200 79 = m_fl (s_200.drop 8) from rfl).trans fl_200_8
theorem tg_200_114 {L : Nat} {xs : Nat → Int32} : m_tg (p_P L xs) 200 114 = k_200_114 := (show m_tgl s_200 114 = m_fl (s_200.drop 9) from rfl).trans fl_200_9
theorem tg_200_142 {L : Nat} {xs : Nat → Int32} : m_tg (p_P L xs) 200 142 = k_200_142 := (show m_tgl s_200 142 = m_fl (s_200.drop 10) from rfl).trans fl_200_10
theorem tg_200_148 {L : Nat} {xs : Nat → Int32} : m_tg (p_P L xs) 200 148 = k_200_148 := (show m_tgl s_200 148 = m_fl (s_200.drop 11) from rfl).trans fl_200_11
noncomputable def k_201_57 : List Instr := .return_ :: []
theorem fl_201_3 : m_fl (s_201.drop 3) = k_201_57 := rfl
noncomputable def k_201_34 : List Instr := .aload 0 :: .invokevirtual 168 :: .aload 0 :: .iconst 1 :: .putfield 802 :: .aload 0 :: .getfield 770 :: .iload 1 :: .iaload :: .iconst 3 :: .if_icmp .ne 57 :: .aload 0 :: .invokevirtual 200 :: k_201_57
theorem fl_201_2 : m_fl (s_201.drop 2) = k_201_34 := (show m_fl (s_201.drop 2) = [.aload 0, .invokevirtual 168, .aload 0, .iconst 1, .putfield 802, .aload 0, .getfield 770, .iload 1, .iaload, .iconst 3, .if_icmp .ne 57, .aload 0, .invokevirtual 200] ++ m_fl (s_201.drop 3) from rfl).trans (by rw [fl_201_3]; rfl)
noncomputable def k_201_26 : List Instr := .aload 0 :: .invokevirtual 171 :: .ifCond .ne 34 :: .return_ :: k_201_34
theorem fl_201_1 : m_fl (s_201.drop 1) = k_201_26 := (show m_fl (s_201.drop 1) = [.aload 0, .invokevirtual 171, .ifCond .ne 34, .return_] ++ m_fl (s_201.drop 2) from rfl).trans (by rw [fl_201_2]; rfl)
noncomputable def k_201_0 : List Instr := .aload 0 :: .getfield 770 :: .iload 1 :: .aload 0 :: .invokevirtual 179 :: .iastore :: .aload 0 :: .getfield 770 :: .iload 1 :: .iaload :: .iconst (-1) :: .if_icmp .ne 26 :: .aload 0 :: .iconst 1 :: .invokevirtual 170 :: .pop :: k_201_26
theorem fl_201_0 : m_fl (s_201.drop 0) = k_201_0 := (show m_fl (s_201.drop 0) = [.aload 0, .getfield 770, .iload 1, .aload 0, .invokevirtual 179, .iastore, .aload 0, .getfield 770, .iload 1, .iaload, .iconst (-1), .if_icmp .ne 26, .aload 0, .iconst 1, .invokevirtual 170, .pop] ++ m_fl (s_201.drop 1) from rfl).trans (by rw [fl_201_1]; rfl)
theorem tn_201_0 {L : Nat} {xs : Nat → Int32} : m_tg (p_P L xs) 201 0 = k_201_0 := (show m_tgl s_201 0 = m_fl (s_201.drop 0) from rfl).trans fl_201_0
theorem tg_201_26 {L : Nat} {xs : Nat → Int32} : m_tg (p_P L xs) 201 26 = k_201_26 := (show m_tgl s_201 26 = m_fl (s_201.drop 1) from rfl).trans fl_201_1
theorem tg_201_34 {L : Nat} {xs : Nat → Int32} : m_tg (p_P L xs) 201 34 = k_201_34 := (show m_tgl s_201 34 = m_fl (s_201.drop 2) from rfl).trans fl_201_2
theorem tg_201_57 {L : Nat} {xs : Nat → Int32} : m_tg (p_P L xs) 201 57 = k_201_57 := (show m_tgl s_201 57 = m_fl (s_201.drop 3) from rfl).trans fl_201_3
noncomputable def k_202_56 : List Instr := .return_ :: []
theorem fl_202_3 : m_fl (s_202.drop 3) = k_202_56 := rfl
noncomputable def k_202_53 : List Instr := .goto 5 :: k_202_56
theorem fl_202_2 : m_fl (s_202.drop 2) = k_202_53 := (show m_fl (s_202.drop 2) = [.goto 5] ++ m_fl (s_202.drop 3) from rfl).trans (by rw [fl_202_3]; rfl)
noncomputable def k_202_5 : List Instr := .aload 0 :: .lload 1 :: .invokevirtual 173 :: .ifCond .eq 56 :: .aload 0 :: .iconst 0 :: .iload 4 :: .invokevirtual 176 :: .istore 6 :: .aload 0 :: .iconst 61 :: .invokevirtual 175 :: .aload 0 :: .iconst 0 :: .putfield 800 :: .aload 0 :: .invokevirtual 191 :: .aload 0 :: .invokevirtual 171 :: .ifCond .eq 53 :: .aload 0 :: .iload 5 :: .iload 6 :: .iadd :: .invokevirtual 184 :: k_202_53
theorem fl_202_1 : m_fl (s_202.drop 1) = k_202_5 := (show m_fl (s_202.drop 1) = [.aload 0, .lload 1, .invokevirtual 173, .ifCond .eq 56, .aload 0, .iconst 0, .iload 4, .invokevirtual 176, .istore 6, .aload 0, .iconst 61, .invokevirtual 175, .aload 0, .iconst 0, .putfield 800, .aload 0, .invokevirtual 191, .aload 0, .invokevirtual 171, .ifCond .eq 53, .aload 0, .iload 5, .iload 6, .iadd, .invokevirtual 184] ++ m_fl (s_202.drop 2) from rfl).trans (by rw [fl_202_2]; rfl)
noncomputable def k_202_0 : List Instr := .aload 0 :: .iload 3 :: .putfield 802 :: k_202_5
theorem fl_202_0 : m_fl (s_202.drop 0) = k_202_0 := (show m_fl (s_202.drop 0) = [.aload 0, .iload 3, .putfield 802] ++ m_fl (s_202.drop 1) from rfl).trans (by rw [fl_202_1]; rfl)
theorem tn_202_0 {L : Nat} {xs : Nat → Int32} : m_tg (p_P L xs) 202 0 = k_202_0 := (show m_tgl s_202 0 = m_fl (s_202.drop 0) from rfl).trans fl_202_0
theorem tg_202_5 {L : Nat} {xs : Nat → Int32} : m_tg (p_P L xs) 202 5 = k_202_5 := (show m_tgl s_202 5 = m_fl (s_202.drop 1) from rfl).trans fl_202_1
theorem tg_202_53 {L : Nat} {xs : Nat → Int32} : m_tg (p_P L xs) 202 53 = k_202_53 := (show m_tgl s_202 53 = m_fl (s_202.drop 2) from rfl).trans fl_202_2
theorem tg_202_56 {L : Nat} {xs : Nat → Int32} : m_tg (p_P L xs) 202 56 = k_202_56 := (show m_tgl s_202 56 = m_fl (s_202.drop 3) from rfl).trans fl_202_3
noncomputable def k_203_229 : List Instr := .return_ :: []
theorem fl_203_5 : m_fl (s_203.drop 5) = k_203_229 := rfl
noncomputable def k_203_146 : List Instr := .aload 0 :: .getfield 773 :: .iload 2 :: .aload 0 :: .getfield 799 :: .iconst 1200 :: .isub :: .iastore :: .aload 0 :: .ldc2_w 14006 :: .iconst 3 :: .iconst 7 :: .iconst 40 :: .invokevirtual 202 :: .aload 0 :: .getfield 774 :: .iload 2 :: .aload 0 :: .getfield 799 :: .iconst 1200 :: .isub :: .iastore :: .aload 0 :: .ldc2_w 220309 :: .iconst 4 :: .iconst 3 :: .iconst 50 :: .invokevirtual 202 :: .aload 0 :: .getfield 775 :: .iload 2 :: .aload 0 :: .getfield 799 :: .iconst 1200 :: .isub :: .iastore :: .aload 0 :: .invokevirtual 171 :: .ifCond .eq 229 :: .aload 0 :: .getfield 769 :: .iconst 11 :: .dup2 :: .iaload :: .iconst 1 :: .iadd :: .iastore :: k_203_229
theorem fl_203_4 : m_fl (s_203.drop 4) = k_203_146 := (show m_fl (s_203.drop 4) = [.aload 0, .getfield 773, .iload 2, .aload 0, .getfield 799, .iconst 1200, .isub, .iastore, .aload 0, .ldc2_w 14006, .iconst 3, .iconst 7, .iconst 40, .invokevirtual 202, .aload 0, .getfield 774, .iload 2, .aload 0, .getfield 799, .iconst 1200, .isub, .iastore, .aload 0, .ldc2_w 220309, .iconst 4, .iconst 3, .iconst 50, .invokevirtual 202, .aload 0, .getfield 775, .iload 2, .aload 0, .getfield 799, .iconst 1200, .isub, .iastore, .aload 0, .invokevirtual 171, .ifCond .eq 229, .aload 0, .getfield 769, .iconst 11, .dup2, .iaload, .iconst 1, .iadd, .iastore] ++ m_fl (s_203.drop 5) from rfl).trans (by rw [fl_203_5]; rfl)
noncomputable def k_203_109 : List Instr := .aload 0 :: .getfield 771 :: .iload 2 :: .aload 0 :: .iconst 1 :: .iconst 50 :: .invokevirtual 176 :: .iastore :: .aload 0 :: .iconst 2 :: .putfield 802 :: .aload 0 :: .iconst 0 :: .putfield 800 :: .aload 0 :: .ldc2_w 261327161 :: .invokevirtual 173 :: .ifCond .eq 146 :: .aload 0 :: .invokevirtual 191 :: k_203_146
theorem fl_203_3 : m_fl (s_203.drop 3) = k_203_109 := (show m_fl (s_203.drop 3) = [.aload 0, .getfield 771, .iload 2, .aload 0, .iconst 1, .iconst 50, .invokevirtual 176, .iastore, .aload 0, .iconst 2, .putfield 802, .aload 0, .iconst 0, .putfield 800, .aload 0, .ldc2_w 261327161, .invokevirtual 173, .ifCond .eq 146, .aload 0, .invokevirtual 191] ++ m_fl (s_203.drop 4) from rfl).trans (by rw [fl_203_4]; rfl)
noncomputable def k_203_26 : List Instr := .aload 0 :: .invokevirtual 168 :: .aload 0 :: .getfield 769 :: .iconst 11 :: .iaload :: .istore 1 :: .iconst 8 :: .iload 1 :: .iadd :: .istore 2 :: .aload 0 :: .iconst 0 :: .putfield 801 :: .aload 0 :: .iload 1 :: .invokevirtual 183 :: .aload 0 :: .getfield 776 :: .iload 2 :: .aload 0 :: .getfield 799 :: .iconst 1200 :: .isub :: .iastore :: .aload 0 :: .iload 2 :: .invokevirtual 201 :: .aload 0 :: .getfield 772 :: .iload 2 :: .aload 0 :: .getfield 799 :: .iconst 1200 :: .isub :: .iastore :: .aload 0 :: .invokevirtual 171 :: .ifCond .eq 109 :: .aload 0 :: .ldc2_w 400577 :: .invokevirtual 173 :: .ifCond .ne 109 :: .aload 0 :: .iconst 1 :: .invokevirtual 170 :: .pop :: k_203_109
theorem fl_203_2 : m_fl (s_203.drop 2) = k_203_26 := (show m_fl (s_203.drop 2) = [.aload 0, .invokevirtual 168, .aload 0, .getfield 769, .iconst 11, .iaload, .istore 1, .iconst 8, .iload 1, .iadd, .istore 2, .aload 0, .iconst 0, .putfield 801, .aload 0, .iload 1, .invokevirtual 183, .aload 0, .getfield 776, .iload 2, .aload 0, .getfield 799, .iconst 1200, .isub, .iastore, .aload 0, .iload 2, .invokevirtual 201, .aload 0, .getfield 772, .iload 2, .aload 0, .getfield 799, .iconst 1200, .isub, .iastore, .aload 0, .invokevirtual 171, .ifCond .eq 109, .aload 0, .ldc2_w 400577, .invokevirtual 173, .ifCond .ne 109, .aload 0, .iconst 1, .invokevirtual 170, .pop] ++ m_fl (s_203.drop 3) from rfl).trans (by rw [fl_203_3]; rfl)
noncomputable def k_203_18 : List Instr := .aload 0 :: .invokevirtual 171 :: .ifCond .ne 26 :: .return_ :: k_203_26
theorem fl_203_1 : m_fl (s_203.drop 1) = k_203_18 := (show m_fl (s_203.drop 1) = [.aload 0, .invokevirtual 171, .ifCond .ne 26, .return_] ++ m_fl (s_203.drop 2) from rfl).trans (by rw [fl_203_2]; rfl)
noncomputable def k_203_0 : List Instr := .aload 0 :: .getfield 769 :: .iconst 11 :: .iaload :: .iconst 8 :: .if_icmp .ne 18 :: .aload 0 :: .iconst 3 :: .invokevirtual 170 :: .pop :: k_203_18
theorem fl_203_0 : m_fl (s_203.drop 0) = k_203_0 := (show m_fl (s_203.drop 0) = [.aload 0, .getfield 769, .iconst 11, .iaload, .iconst 8, .if_icmp .ne 18, .aload 0, .iconst 3, .invokevirtual 170, .pop] ++ m_fl (s_203.drop 1) from rfl).trans (by rw [fl_203_1]; rfl)
theorem tn_203_0 {L : Nat} {xs : Nat → Int32} : m_tg (p_P L xs) 203 0 = k_203_0 := (show m_tgl s_203 0 = m_fl (s_203.drop 0) from rfl).trans fl_203_0
theorem tg_203_18 {L : Nat} {xs : Nat → Int32} : m_tg (p_P L xs) 203 18 = k_203_18 := (show m_tgl s_203 18 = m_fl (s_203.drop 1) from rfl).trans fl_203_1
theorem tg_203_26 {L : Nat} {xs : Nat → Int32} : m_tg (p_P L xs) 203 26 = k_203_26 := (show m_tgl s_203 26 = m_fl (s_203.drop 2) from rfl).trans fl_203_2
theorem tg_203_109 {L : Nat} {xs : Nat → Int32} : m_tg (p_P L xs) 203 109 = k_203_109 := (show m_tgl s_203 109 = m_fl (s_203.drop 3) from rfl).trans fl_203_3
theorem tg_203_146 {L : Nat} {xs : Nat → Int32} : m_tg (p_P L xs) 203 146 = k_203_146 := (show m_tgl s_203 146 = m_fl (s_203.drop 4) from rfl).trans fl_203_4
theorem tg_203_229 {L : Nat} {xs : Nat → Int32} : m_tg (p_P L xs) 203 229 = k_203_229 := (show m_tgl s_203 229 = m_fl (s_203.drop 5) from rfl).trans fl_203_5
noncomputable def k_204_207 : List Instr := .aload 0 :: .iconst 59 :: .invokevirtual 175 :: .return_ :: []
theorem fl_204_8 : m_fl (s_204.drop 8) = k_204_207 := rfl
noncomputable def k_204_201 : List Instr := .aload 0 :: .iconst 1 :: .invokevirtual 170 :: .pop :: k_204_207
theorem fl_204_7 : m_fl (s_204.drop 7) = k_204_201 := (show m_fl (s_204.drop 7) = [.aload 0, .iconst 1, .invokevirtual 170, .pop] ++ m_fl (s_204.drop 8) from rfl).trans (by rw [fl_204_8]; rfl)
noncomputable def k_204_174 : List Instr := .aload 0 :: .ldc2_w 84273568011 :: .invokevirtual 173 :: .ifCond .eq 201 :: .aload 0 :: .getfield 769 :: .iconst 18 :: .aload 0 :: .iconst 1 :: .iconst 50 :: .invokevirtual 176 :: .iastore :: .goto 207 :: k_204_201
theorem fl_204_6 : m_fl (s_204.drop 6) = k_204_174 := (show m_fl (s_204.drop 6) = [.aload 0, .ldc2_w 84273568011, .invokevirtual 173, .ifCond .eq 201, .aload 0, .getfield 769, .iconst 18, .aload 0, .iconst 1, .iconst 50, .invokevirtual 176, .iastore, .goto 207] ++ m_fl (s_204.drop 7) from rfl).trans (by rw [fl_204_7]; rfl)
noncomputable def k_204_147 : List Instr := .aload 0 :: .ldc2_w 3094387 :: .invokevirtual 173 :: .ifCond .eq 174 :: .aload 0 :: .getfield 769 :: .iconst 17 :: .aload 0 :: .iconst 1 :: .iconst 20 :: .invokevirtual 176 :: .iastore :: .goto 207 :: k_204_174
theorem fl_204_5 : m_fl (s_204.drop 5) = k_204_147 := (show m_fl (s_204.drop 5) = [.aload 0, .ldc2_w 3094387, .invokevirtual 173, .ifCond .eq 174, .aload 0, .getfield 769, .iconst 17, .aload 0, .iconst 1, .iconst 20, .invokevirtual 176, .iastore, .goto 207] ++ m_fl (s_204.drop 6) from rfl).trans (by rw [fl_204_6]; rfl)
noncomputable def k_204_120 : List Instr := .aload 0 :: .ldc2_w 237745544 :: .invokevirtual 173 :: .ifCond .eq 147 :: .aload 0 :: .getfield 769 :: .iconst 16 :: .aload 0 :: .iconst 1 :: .iconst 20 :: .invokevirtual 176 :: .iastore :: .goto 207 :: k_204_147
theorem fl_204_4 : m_fl (s_204.drop 4) = k_204_120 := (show m_fl (s_204.drop 4) = [.aload 0, .ldc2_w 237745544, .invokevirtual 173, .ifCond .eq 147, .aload 0, .getfield 769, .iconst 16, .aload 0, .iconst 1, .iconst 20, .invokevirtual 176, .iastore, .goto 207] ++ m_fl (s_204.drop 5) from rfl).trans (by rw [fl_204_5]; rfl)
noncomputable def k_204_93 : List Instr := .aload 0 :: .ldc2_w 283616030 :: .invokevirtual 173 :: .ifCond .eq 120 :: .aload 0 :: .getfield 769 :: .iconst 15 :: .aload 0 :: .iconst 0 :: .iconst 20 :: .invokevirtual 176 :: .iastore :: .goto 207 :: k_204_120
theorem fl_204_3 : m_fl (s_204.drop 3) = k_204_93 := (show m_fl (s_204.drop 3) = [.aload 0, .ldc2_w 283616030, .invokevirtual 173, .ifCond .eq 120, .aload 0, .getfield 769, .iconst 15, .aload 0, .iconst 0, .iconst 20, .invokevirtual 176, .iastore, .goto 207] ++ m_fl (s_204.drop 4) from rfl).trans (by rw [fl_204_4]; rfl)
noncomputable def k_204_65 : List Instr := .aload 0 :: .ldc2_w 60115 :: .invokevirtual 173 :: .ifCond .eq 93 :: .aload 0 :: .getfield 769 :: .iconst 14 :: .aload 0 :: .iconst 1 :: .iconst 1000 :: .invokevirtual 176 :: .iastore :: .goto 207 :: k_204_93
theorem fl_204_2 : m_fl (s_204.drop 2) = k_204_65 := (show m_fl (s_204.drop 2) = [.aload 0, .ldc2_w 60115, .invokevirtual 173, .ifCond .eq 93, .aload 0, .getfield 769, .iconst 14, .aload 0, .iconst 1, .iconst 1000, .invokevirtual 176, .iastore, .goto 207] ++ m_fl (s_204.drop 3) from rfl).trans (by rw [fl_204_3]; rfl)
noncomputable def k_204_17 : List Instr := .aload 0 :: .ldc2_w 2232979 :: .invokevirtual 173 :: .ifCond .eq 65 :: .aload 0 :: .getfield 769 :: .iconst 12 :: .aload 0 :: .iconst 1 :: .iconst 100 :: .invokevirtual 176 :: .iastore :: .aload 0 :: .getfield 769 :: .iconst 13 :: .aload 0 :: .aload 0 :: .getfield 769 :: .iconst 12 :: .iaload :: .iconst 1000 :: .invokevirtual 176 :: .iastore :: .goto 207 :: k_204_65
theorem fl_204_1 : m_fl (s_204.drop 1) = k_204_17 := (show m_fl (s_204.drop 1) = [.aload 0, .ldc2_w 2232979, .invokevirtual 173, .ifCond .eq 65, .aload 0, .getfield 769, .iconst 12, .aload 0, .iconst 1, .iconst 100, .invokevirtual 176, .iastore, .aload 0, .getfield 769, .iconst 13, .aload 0, .aload 0, .getfield 769, .iconst 12, .iaload, .iconst 1000, .invokevirtual 176, .iastore, .goto 207] ++ m_fl (s_204.drop 2) from rfl).trans (by rw [fl_204_2]; rfl)
noncomputable def k_204_0 : List Instr := .aload 0 :: .ldc2_w 1384660795 :: .invokevirtual 172 :: .ifCond .eq 17 :: .aload 0 :: .invokevirtual 203 :: .goto 207 :: k_204_17
theorem fl_204_0 : m_fl (s_204.drop 0) = k_204_0 := (show m_fl (s_204.drop 0) = [.aload 0, .ldc2_w 1384660795, .invokevirtual 172, .ifCond .eq 17, .aload 0, .invokevirtual 203, .goto 207] ++ m_fl (s_204.drop 1) from rfl).trans (by rw [fl_204_1]; rfl)
theorem tn_204_0 {L : Nat} {xs : Nat → Int32} : m_tg (p_P L xs) 204 0 = k_204_0 := (show m_tgl s_204 0 = m_fl (s_204.drop 0) from rfl).trans fl_204_0
theorem tg_204_17 {L : Nat} {xs : Nat → Int32} : m_tg (p_P L xs) 204 17 = k_204_17 := (show m_tgl s_204 17 = m_fl (s_204.drop 1) from rfl).trans fl_204_1
theorem tg_204_65 {L : Nat} {xs : Nat → Int32} : m_tg (p_P L xs) 204 65 = k_204_65 := (show m_tgl s_204 65 = m_fl (s_204.drop 2) from rfl).trans fl_204_2
theorem tg_204_93 {L : Nat} {xs : Nat → Int32} : m_tg (p_P L xs) 204 93 = k_204_93 := (show m_tgl s_204 93 = m_fl (s_204.drop 3) from rfl).trans fl_204_3
theorem tg_204_120 {L : Nat} {xs : Nat → Int32} : m_tg (p_P L xs) 204 120 = k_204_120 := (show m_tgl s_204 120 = m_fl (s_204.drop 4) from rfl).trans fl_204_4
theorem tg_204_147 {L : Nat} {xs : Nat → Int32} : m_tg (p_P L xs) 204 147 = k_204_147 := (show m_tgl s_204 147 = m_fl (s_204.drop 5) from rfl).trans fl_204_5
theorem tg_204_174 {L : Nat} {xs : Nat → Int32} : m_tg (p_P L xs) 204 174 = k_204_174 := (show m_tgl s_204 174 = m_fl (s_204.drop 6) from rfl).trans fl_204_6
theorem tg_204_201 {L : Nat} {xs : Nat → Int32} : m_tg (p_P L xs) 204 201 = k_204_201 := (show m_tgl s_204 201 = m_fl (s_204.drop 7) from rfl).trans fl_204_7
theorem tg_204_207 {L : Nat} {xs : Nat → Int32} : m_tg (p_P L xs) 204 207 = k_204_207 := (show m_tgl s_204 207 = m_fl (s_204.drop 8) from rfl).trans fl_204_8
noncomputable def k_205_118 : List Instr := .aload 0 :: .invokevirtual 158 :: .aload 0 :: .getfield 769 :: .iconst 1 :: .iaload :: .ireturn :: []
theorem fl_205_5 : m_fl (s_205.drop 5) = k_205_118 := rfl
noncomputable def k_205_103 : List Instr := .aload 0 :: .invokevirtual 171 :: .ifCond .ne 118 :: .iconst (-10) :: .aload 0 :: .getfield 794 :: .isub :: .ireturn :: k_205_118
theorem fl_205_4 : m_fl (s_205.drop 4) = k_205_103 := (show m_fl (s_205.drop 4) = [.aload 0, .invokevirtual 171, .ifCond .ne 118, .iconst (-10), .aload 0, .getfield 794, .isub, .ireturn] ++ m_fl (s_205.drop 5) from rfl).trans (by rw [fl_205_5]; rfl)
noncomputable def k_205_82 : List Instr := .aload 0 :: .invokevirtual 171 :: .ifCond .eq 103 :: .aload 0 :: .getfield 791 :: .ifCond .eq 103 :: .aload 0 :: .invokevirtual 204 :: .goto 82 :: k_205_103
theorem fl_205_3 : m_fl (s_205.drop 3) = k_205_82 := (show m_fl (s_205.drop 3) = [.aload 0, .invokevirtual 171, .ifCond .eq 103, .aload 0, .getfield 791, .ifCond .eq 103, .aload 0, .invokevirtual 204, .goto 82] ++ m_fl (s_205.drop 4) from rfl).trans (by rw [fl_205_4]; rfl)
noncomputable def k_205_63 : List Instr := .aload 0 :: .getfield 769 :: .iconst 10 :: .aload 0 :: .iconst 1 :: .iconst 4 :: .invokevirtual 176 :: .iastore :: .aload 0 :: .iconst 59 :: .invokevirtual 175 :: k_205_82
theorem fl_205_2 : m_fl (s_205.drop 2) = k_205_63 := (show m_fl (s_205.drop 2) = [.aload 0, .getfield 769, .iconst 10, .aload 0, .iconst 1, .iconst 4, .invokevirtual 176, .iastore, .aload 0, .iconst 59, .invokevirtual 175] ++ m_fl (s_205.drop 3) from rfl).trans (by rw [fl_205_3]; rfl)
noncomputable def k_205_26 : List Instr := .aload 0 :: .iload 1 :: .invokevirtual 169 :: .aload 0 :: .invokevirtual 156 :: .aload 0 :: .iconst 0 :: .putfield 803 :: .aload 0 :: .iconst 1200 :: .putfield 799 :: .aload 0 :: .ldc2_w 1813182427 :: .invokevirtual 173 :: .ifCond .ne 63 :: .aload 0 :: .iconst 1 :: .invokevirtual 170 :: .pop :: k_205_63
theorem fl_205_1 : m_fl (s_205.drop 1) = k_205_26 := (show m_fl (s_205.drop 1) = [.aload 0, .iload 1, .invokevirtual 169, .aload 0, .invokevirtual 156, .aload 0, .iconst 0, .putfield 803, .aload 0, .iconst 1200, .putfield 799, .aload 0, .ldc2_w 1813182427, .invokevirtual 173, .ifCond .ne 63, .aload 0, .iconst 1, .invokevirtual 170, .pop] ++ m_fl (s_205.drop 2) from rfl).trans (by rw [fl_205_2]; rfl)
noncomputable def k_205_0 : List Instr := .aload 0 :: .iconst 0 :: .putfield 768 :: .aload 0 :: .iload 1 :: .i2l :: .ldc2_w 0 :: .aload 0 :: .getfield 787 :: .i2l :: .invokestatic 153 :: .iconst 1 :: .invokevirtual 154 :: .ifCond .eq 26 :: .iconst 0 :: .ireturn :: k_205_26
theorem fl_205_0 : m_fl (s_205.drop 0) = k_205_0 := (show m_fl (s_205.drop 0) = [.aload 0, .iconst 0, .putfield 768, .aload 0, .iload 1, .i2l, .ldc2_w 0, .aload 0, .getfield 787, .i2l, .invokestatic 153, .iconst 1, .invokevirtual 154, .ifCond .eq 26, .iconst 0, .ireturn] ++ m_fl (s_205.drop 1) from rfl).trans (by rw [fl_205_1]; rfl)
theorem tn_205_0 {L : Nat} {xs : Nat → Int32} : m_tg (p_P L xs) 205 0 = k_205_0 := (show m_tgl s_205 0 = m_fl (s_205.drop 0) from rfl).trans fl_205_0
theorem tg_205_26 {L : Nat} {xs : Nat → Int32} : m_tg (p_P L xs) 205 26 = k_205_26 := (show m_tgl s_205 26 = m_fl (s_205.drop 1) from rfl).trans fl_205_1
theorem tg_205_63 {L : Nat} {xs : Nat → Int32} : m_tg (p_P L xs) 205 63 = k_205_63 := (show m_tgl s_205 63 = m_fl (s_205.drop 2) from rfl).trans fl_205_2
theorem tg_205_82 {L : Nat} {xs : Nat → Int32} : m_tg (p_P L xs) 205 82 = k_205_82 := (show m_tgl s_205 82 = m_fl (s_205.drop 3) from rfl).trans fl_205_3
theorem tg_205_103 {L : Nat} {xs : Nat → Int32} : m_tg (p_P L xs) 205 103 = k_205_103 := (show m_tgl s_205 103 = m_fl (s_205.drop 4) from rfl).trans fl_205_4
theorem tg_205_118 {L : Nat} {xs : Nat → Int32} : m_tg (p_P L xs) 205 118 = k_205_118 := (show m_tgl s_205 118 = m_fl (s_205.drop 5) from rfl).trans fl_205_5
noncomputable def k_206_114 : List Instr := .iload 1 :: .iload 2 :: .imul :: .ireturn :: []
theorem fl_206_18 : m_fl (s_206.drop 18) = k_206_114 := rfl
noncomputable def k_206_110 : List Instr := .iload 1 :: .iload 2 :: .isub :: .ireturn :: k_206_114
theorem fl_206_17 : m_fl (s_206.drop 17) = k_206_110 := (show m_fl (s_206.drop 17) = [.iload 1, .iload 2, .isub, .ireturn] ++ m_fl (s_206.drop 18) from rfl).trans (by rw [fl_206_18]; rfl)
noncomputable def k_206_106 : List Instr := .iload 1 :: .iload 2 :: .iadd :: .ireturn :: k_206_110
theorem fl_206_16 : m_fl (s_206.drop 16) = k_206_106 := (show m_fl (s_206.drop 16) = [.iload 1, .iload 2, .iadd, .ireturn] ++ m_fl (s_206.drop 17) from rfl).trans (by rw [fl_206_17]; rfl)
noncomputable def k_206_105 : List Instr := .ireturn :: k_206_106
theorem fl_206_15 : m_fl (s_206.drop 15) = k_206_105 := (show m_fl (s_206.drop 15) = [.ireturn] ++ m_fl (s_206.drop 16) from rfl).trans (by rw [fl_206_16]; rfl)
noncomputable def k_206_104 : List Instr := .iconst 0 :: k_206_105
theorem fl_206_14 : m_fl (s_206.drop 14) = k_206_104 := (show m_fl (s_206.drop 14) = [.iconst 0] ++ m_fl (s_206.drop 15) from rfl).trans (by rw [fl_206_15]; rfl)
noncomputable def k_206_94 : List Instr := .iload 1 :: .iload 2 :: .iadd :: .ifCond .le 104 :: .iconst 1 :: .goto 105 :: k_206_104
theorem fl_206_13 : m_fl (s_206.drop 13) = k_206_94 := (show m_fl (s_206.drop 13) = [.iload 1, .iload 2, .iadd, .ifCond .le 104, .iconst 1, .goto 105] ++ m_fl (s_206.drop 14) from rfl).trans (by rw [fl_206_14]; rfl)
noncomputable def k_206_93 : List Instr := .ireturn :: k_206_94
theorem fl_206_12 : m_fl (s_206.drop 12) = k_206_93 := (show m_fl (s_206.drop 12) = [.ireturn] ++ m_fl (s_206.drop 13) from rfl).trans (by rw [fl_206_13]; rfl)
noncomputable def k_206_92 : List Instr := .iconst 0 :: k_206_93
theorem fl_206_11 : m_fl (s_206.drop 11) = k_206_92 := (show m_fl (s_206.drop 11) = [.iconst 0] ++ m_fl (s_206.drop 12) from rfl).trans (by rw [fl_206_12]; rfl)
noncomputable def k_206_81 : List Instr := .iload 1 :: .iload 2 :: .iadd :: .iconst 2 :: .if_icmp .ne 92 :: .iconst 1 :: .goto 93 :: k_206_92
theorem fl_206_10 : m_fl (s_206.drop 10) = k_206_81 := (show m_fl (s_206.drop 10) = [.iload 1, .iload 2, .iadd, .iconst 2, .if_icmp .ne 92, .iconst 1, .goto 93] ++ m_fl (s_206.drop 11) from rfl).trans (by rw [fl_206_11]; rfl)
noncomputable def k_206_80 : List Instr := .ireturn :: k_206_81
theorem fl_206_9 : m_fl (s_206.drop 9) = k_206_80 := (show m_fl (s_206.drop 9) = [.ireturn] ++ m_fl (s_206.drop 10) from rfl).trans (by rw [fl_206_10]; rfl)
noncomputable def k_206_79 : List Instr := .iconst 0 :: k_206_80
theorem fl_206_8 : m_fl (s_206.drop 8) = k_206_79 := (show m_fl (s_206.drop 8) = [.iconst 0] ++ m_fl (s_206.drop 9) from rfl).trans (by rw [fl_206_9]; rfl)
noncomputable def k_206_70 : List Instr := .iload 1 :: .iload 2 :: .if_icmp .le 79 :: .iconst 1 :: .goto 80 :: k_206_79
theorem fl_206_7 : m_fl (s_206.drop 7) = k_206_70 := (show m_fl (s_206.drop 7) = [.iload 1, .iload 2, .if_icmp .le 79, .iconst 1, .goto 80] ++ m_fl (s_206.drop 8) from rfl).trans (by rw [fl_206_8]; rfl)
noncomputable def k_206_69 : List Instr := .ireturn :: k_206_70
theorem fl_206_6 : m_fl (s_206.drop 6) = k_206_69 := (show m_fl (s_206.drop 6) = [.ireturn] ++ m_fl (s_206.drop 7) from rfl).trans (by rw [fl_206_7]; rfl)
noncomputable def k_206_68 : List Instr := .iconst 0 :: k_206_69
theorem fl_206_5 : m_fl (s_206.drop 5) = k_206_68 := (show m_fl (s_206.drop 5) = [.iconst 0] ++ m_fl (s_206.drop 6) from rfl).trans (by rw [fl_206_6]; rfl)
noncomputable def k_206_59 : List Instr := .iload 1 :: .iload 2 :: .if_icmp .ne 68 :: .iconst 1 :: .goto 69 :: k_206_68
theorem fl_206_4 : m_fl (s_206.drop 4) = k_206_59 := (show m_fl (s_206.drop 4) = [.iload 1, .iload 2, .if_icmp .ne 68, .iconst 1, .goto 69] ++ m_fl (s_206.drop 5) from rfl).trans (by rw [fl_206_5]; rfl)
noncomputable def k_206_58 : List Instr := .ireturn :: k_206_59
theorem fl_206_3 : m_fl (s_206.drop 3) = k_206_58 := (show m_fl (s_206.drop 3) = [.ireturn] ++ m_fl (s_206.drop 4) from rfl).trans (by rw [fl_206_4]; rfl)
noncomputable def k_206_57 : List Instr := .iconst 0 :: k_206_58
theorem fl_206_2 : m_fl (s_206.drop 2) = k_206_57 := (show m_fl (s_206.drop 2) = [.iconst 0] ++ m_fl (s_206.drop 3) from rfl).trans (by rw [fl_206_3]; rfl)
noncomputable def k_206_48 : List Instr := .iload 1 :: .iload 2 :: .if_icmp .ge 57 :: .iconst 1 :: .goto 58 :: k_206_57
theorem fl_206_1 : m_fl (s_206.drop 1) = k_206_48 := (show m_fl (s_206.drop 1) = [.iload 1, .iload 2, .if_icmp .ge 57, .iconst 1, .goto 58] ++ m_fl (s_206.drop 2) from rfl).trans (by rw [fl_206_2]; rfl)
noncomputable def k_206_0 : List Instr := .iload 0 :: .tableswitch 114 20 27 #[48, 59, 70, 114, 81, 94, 106, 110] :: k_206_48
theorem fl_206_0 : m_fl (s_206.drop 0) = k_206_0 := (show m_fl (s_206.drop 0) = [.iload 0, .tableswitch 114 20 27 #[48, 59, 70, 114, 81, 94, 106, 110]] ++ m_fl (s_206.drop 1) from rfl).trans (by rw [fl_206_1]; rfl)
theorem tn_206_0 {L : Nat} {xs : Nat → Int32} : m_tg (p_P L xs) 206 0 = k_206_0 := (show m_tgl s_206 0 = m_fl (s_206.drop 0) from rfl).trans fl_206_0
theorem tg_206_48 {L : Nat} {xs : Nat → Int32} : m_tg (p_P L xs) 206 48 = k_206_48 := (show m_tgl s_206 48 = m_fl (s_206.drop 1) from rfl).trans fl_206_1
theorem tg_206_57 {L : Nat} {xs : Nat → Int32} : m_tg (p_P L xs) 206 57 = k_206_57 := (show m_tgl s_206 57 = m_fl (s_206.drop 2) from rfl).trans fl_206_2
theorem tg_206_58 {L : Nat} {xs : Nat → Int32} : m_tg (p_P L xs) 206 58 = k_206_58 := (show m_tgl s_206 58 = m_fl (s_206.drop 3) from rfl).trans fl_206_3
theorem tg_206_59 {L : Nat} {xs : Nat → Int32} : m_tg (p_P L xs) 206 59 = k_206_59 := (show m_tgl s_206 59 = m_fl (s_206.drop 4) from rfl).trans fl_206_4
theorem tg_206_68 {L : Nat} {xs : Nat → Int32} : m_tg (p_P L xs) 206 68 = k_206_68 := (show m_tgl s_206 68 = m_fl (s_206.drop 5) from rfl).trans fl_206_5
theorem tg_206_69 {L : Nat} {xs : Nat → Int32} : m_tg (p_P L xs) 206 69 = k_206_69 := (show m_tgl s_206 69 = m_fl (s_206.drop 6) from rfl).trans fl_206_6
theorem tg_206_70 {L : Nat} {xs : Nat → Int32} : m_tg (p_P L xs) 206 70 = k_206_70 := (show m_tgl s_206 70 = m_fl (s_206.drop 7) from rfl).trans fl_206_7
theorem tg_206_79 {L : Nat} {xs : Nat → Int32} : m_tg (p_P L xs) 206 79 = k_206_79 := (show m_tgl s_206 79 = m_fl (s_206.drop 8) from rfl).trans fl_206_8
theorem tg_206_80 {L : Nat} {xs : Nat → Int32} : m_tg (p_P L xs) 206 80 = k_206_80 := (show m_tgl s_206 80 = m_fl (s_206.drop 9) from rfl).trans fl_206_9
theorem tg_206_81 {L : Nat} {xs : Nat → Int32} : m_tg (p_P L xs) 206 81 = k_206_81 := (show m_tgl s_206 81 = m_fl (s_206.drop 10) from rfl).trans fl_206_10
theorem tg_206_92 {L : Nat} {xs : Nat → Int32} : m_tg (p_P L xs) 206 92 = k_206_92 := (show m_tgl s_206 92 = m_fl (s_206.drop 11) from rfl).trans fl_206_11
theorem tg_206_93 {L : Nat} {xs : Nat → Int32} : m_tg (p_P L xs) 206 93 = k_206_93 := (show m_tgl s_206 93 = m_fl (s_206.drop 12) from rfl).trans fl_206_12
theorem tg_206_94 {L : Nat} {xs : Nat → Int32} : m_tg (p_P L xs) 206 94 = k_206_94 := (show m_tgl s_206 94 = m_fl (s_206.drop 13) from rfl).trans fl_206_13
theorem tg_206_104 {L : Nat} {xs : Nat → Int32} : m_tg (p_P L xs) 206 104 = k_206_104 := (show m_tgl s_206 104 = m_fl (s_206.drop 14) from rfl).trans fl_206_14
theorem tg_206_105 {L : Nat} {xs : Nat → Int32} : m_tg (p_P L xs) 206 105 = k_206_105 := (show m_tgl s_206 105 = m_fl (s_206.drop 15) from rfl).trans fl_206_15
theorem tg_206_106 {L : Nat} {xs : Nat → Int32} : m_tg (p_P L xs) 206 106 = k_206_106 := (show m_tgl s_206 106 = m_fl (s_206.drop 16) from rfl).trans fl_206_16
theorem tg_206_110 {L : Nat} {xs : Nat → Int32} : m_tg (p_P L xs) 206 110 = k_206_110 := (show m_tgl s_206 110 = m_fl (s_206.drop 17) from rfl).trans fl_206_17
theorem tg_206_114 {L : Nat} {xs : Nat → Int32} : m_tg (p_P L xs) 206 114 = k_206_114 := (show m_tgl s_206 114 = m_fl (s_206.drop 18) from rfl).trans fl_206_18
noncomputable def k_207_0 : List Instr := .iload 0 :: .iconst (65535) :: .iand :: .ireturn :: []
theorem fl_207_0 : m_fl (s_207.drop 0) = k_207_0 := rfl
theorem tn_207_0 {L : Nat} {xs : Nat → Int32} : m_tg (p_P L xs) 207 0 = k_207_0 := (show m_tgl s_207 0 = m_fl (s_207.drop 0) from rfl).trans fl_207_0
noncomputable def k_208_48 : List Instr := .aload 0 :: .dup :: .getfield 804 :: .iconst 1 :: .isub :: .putfield 804 :: .aload 0 :: .getfield 797 :: .aload 0 :: .getfield 804 :: .iconst 1 :: .isub :: .iload 1 :: .aload 0 :: .getfield 797 :: .aload 0 :: .getfield 804 :: .iconst 1 :: .isub :: .iaload :: .aload 0 :: .getfield 797 :: .aload 0 :: .getfield 804 :: .iaload :: .invokestatic 206 :: .iastore :: .iconst 1 :: .ret 0 :: []
theorem fl_208_2 : m_fl (s_208.drop 2) = k_208_48 := rfl
noncomputable def k_208_32 : List Instr := .iload 1 :: .i2l :: .ldc2_w 20 :: .ldc2_w 28 :: .invokestatic 153 :: .ifCond .ne 48 :: .iconst 0 :: .ret 0 :: k_208_48
theorem fl_208_1 : m_fl (s_208.drop 1) = k_208_32 := (show m_fl (s_208.drop 1) = [.iload 1, .i2l, .ldc2_w 20, .ldc2_w 28, .invokestatic 153, .ifCond .ne 48, .iconst 0, .ret 0] ++ m_fl (s_208.drop 2) from rfl).trans (by rw [fl_208_2]; rfl)
noncomputable def k_208_0 : List Instr := .iload 1 :: .iconst 23 :: .if_icmp .ne 32 :: .aload 0 :: .getfield 797 :: .aload 0 :: .getfield 804 :: .iconst 1 :: .isub :: .iconst 1 :: .aload 0 :: .getfield 797 :: .aload 0 :: .getfield 804 :: .iconst 1 :: .isub :: .iaload :: .isub :: .iastore :: .iconst 1 :: .ret 0 :: k_208_32
theorem fl_208_0 : m_fl (s_208.drop 0) = k_208_0 := (show m_fl (s_208.drop 0) = [.iload 1, .iconst 23, .if_icmp .ne 32, .aload 0, .getfield 797, .aload 0, .getfield 804, .iconst 1, .isub, .iconst 1, .aload 0, .getfield 797, .aload 0, .getfield 804, .iconst 1, .isub, .iaload, .isub, .iastore, .iconst 1, .ret 0] ++ m_fl (s_208.drop 1) from rfl).trans (by rw [fl_208_1]; rfl)
theorem tn_208_0 {L : Nat} {xs : Nat → Int32} : m_tg (p_P L xs) 208 0 = k_208_0 := (show m_tgl s_208 0 = m_fl (s_208.drop 0) from rfl).trans fl_208_0
theorem tg_208_32 {L : Nat} {xs : Nat → Int32} : m_tg (p_P L xs) 208 32 = k_208_32 := (show m_tgl s_208 32 = m_fl (s_208.drop 1) from rfl).trans fl_208_1
theorem tg_208_48 {L : Nat} {xs : Nat → Int32} : m_tg (p_P L xs) 208 48 = k_208_48 := (show m_tgl s_208 48 = m_fl (s_208.drop 2) from rfl).trans fl_208_2
noncomputable def k_209_50 : List Instr := .ireturn :: []
theorem fl_209_4 : m_fl (s_209.drop 4) = k_209_50 := rfl
noncomputable def k_209_48 : List Instr := .iload 4 :: k_209_50
theorem fl_209_3 : m_fl (s_209.drop 3) = k_209_48 := (show m_fl (s_209.drop 3) = [.iload 4] ++ m_fl (s_209.drop 4) from rfl).trans (by rw [fl_209_4]; rfl)
noncomputable def k_209_38 : List Instr := .iload 1 :: .iconst 12 :: .if_icmp .ne 48 :: .iload 3 :: .goto 50 :: k_209_48
theorem fl_209_2 : m_fl (s_209.drop 2) = k_209_38 := (show m_fl (s_209.drop 2) = [.iload 1, .iconst 12, .if_icmp .ne 48, .iload 3, .goto 50] ++ m_fl (s_209.drop 3) from rfl).trans (by rw [fl_209_3]; rfl)
noncomputable def k_209_18 : List Instr := .iload 1 :: .iconst 12 :: .if_icmp .ge 38 :: .aload 0 :: .iconst 80 :: .iconst 4 :: .iload 2 :: .imul :: .iadd :: .iload 1 :: .iadd :: .iconst 8 :: .isub :: .iaload :: .ireturn :: k_209_38
theorem fl_209_1 : m_fl (s_209.drop 1) = k_209_18 := (show m_fl (s_209.drop 1) = [.iload 1, .iconst 12, .if_icmp .ge 38, .aload 0, .iconst 80, .iconst 4, .iload 2, .imul, .iadd, .iload 1, .iadd, .iconst 8, .isub, .iaload, .ireturn] ++ m_fl (s_209.drop 2) from rfl).trans (by rw [fl_209_2]; rfl)
noncomputable def k_209_0 : List Instr := .iload 1 :: .iconst 8 :: .if_icmp .ge 18 :: .aload 0 :: .iconst 48 :: .iconst 8 :: .iload 2 :: .imul :: .iadd :: .iload 1 :: .iadd :: .iaload :: .ireturn :: k_209_18
theorem fl_209_0 : m_fl (s_209.drop 0) = k_209_0 := (show m_fl (s_209.drop 0) = [.iload 1, .iconst 8, .if_icmp .ge 18, .aload 0, .iconst 48, .iconst 8, .iload 2, .imul, .iadd, .iload 1, .iadd, .iaload, .ireturn] ++ m_fl (s_209.drop 1) from rfl).trans (by rw [fl_209_1]; rfl)
theorem tn_209_0 {L : Nat} {xs : Nat → Int32} : m_tg (p_P L xs) 209 0 = k_209_0 := (show m_tgl s_209 0 = m_fl (s_209.drop 0) from rfl).trans fl_209_0
theorem tg_209_18 {L : Nat} {xs : Nat → Int32} : m_tg (p_P L xs) 209 18 = k_209_18 := (show m_tgl s_209 18 = m_fl (s_209.drop 1) from rfl).trans fl_209_1
theorem tg_209_38 {L : Nat} {xs : Nat → Int32} : m_tg (p_P L xs) 209 38 = k_209_38 := (show m_tgl s_209 38 = m_fl (s_209.drop 2) from rfl).trans fl_209_2
theorem tg_209_48 {L : Nat} {xs : Nat → Int32} : m_tg (p_P L xs) 209 48 = k_209_48 := (show m_tgl s_209 48 = m_fl (s_209.drop 3) from rfl).trans fl_209_3
theorem tg_209_50 {L : Nat} {xs : Nat → Int32} : m_tg (p_P L xs) 209 50 = k_209_50 := (show m_tgl s_209 50 = m_fl (s_209.drop 4) from rfl).trans fl_209_4
noncomputable def k_210_207 : List Instr := .aload 0 :: .getfield 797 :: .iconst 0 :: .iaload :: .ireturn :: []
theorem fl_210_8 : m_fl (s_210.drop 8) = k_210_207 := rfl
noncomputable def k_210_201 : List Instr := .iinc 7 1 :: .goto 15 :: k_210_207
theorem fl_210_7 : m_fl (s_210.drop 7) = k_210_201 := (show m_fl (s_210.drop 7) = [.iinc 7 1, .goto 15] ++ m_fl (s_210.drop 8) from rfl).trans (by rw [fl_210_8]; rfl)
noncomputable def k_210_190 : List Instr := .iastore :: .aload 0 :: .dup :: .getfield 804 :: .iconst 1 :: .iadd :: .putfield 804 :: k_210_201
theorem fl_210_6 : m_fl (s_210.drop 6) = k_210_190 := (show m_fl (s_210.drop 6) = [.iastore, .aload 0, .dup, .getfield 804, .iconst 1, .iadd, .putfield 804] ++ m_fl (s_210.drop 7) from rfl).trans (by rw [fl_210_7]; rfl)
noncomputable def k_210_178 : List Instr := .aload 1 :: .iload 8 :: .iload 4 :: .iload 5 :: .iload 6 :: .invokestatic 209 :: k_210_190
theorem fl_210_5 : m_fl (s_210.drop 5) = k_210_178 := (show m_fl (s_210.drop 5) = [.aload 1, .iload 8, .iload 4, .iload 5, .iload 6, .invokestatic 209] ++ m_fl (s_210.drop 6) from rfl).trans (by rw [fl_210_6]; rfl)
noncomputable def k_210_153 : List Instr := .aload 0 :: .getfield 797 :: .aload 0 :: .getfield 804 :: .iload 8 :: .iconst 1000 :: .if_icmp .lt 178 :: .iload 8 :: .iconst 1000 :: .isub :: .goto 190 :: k_210_178
theorem fl_210_4 : m_fl (s_210.drop 4) = k_210_153 := (show m_fl (s_210.drop 4) = [.aload 0, .getfield 797, .aload 0, .getfield 804, .iload 8, .iconst 1000, .if_icmp .lt 178, .iload 8, .iconst 1000, .isub, .goto 190] ++ m_fl (s_210.drop 5) from rfl).trans (by rw [fl_210_5]; rfl)
noncomputable def k_210_98 : List Instr := .iload 8 :: .i2l :: .ldc2_w 50 :: .ldc2_w 53 :: .invokestatic 153 :: .ifCond .eq 153 :: .aload 0 :: .dup :: .getfield 804 :: .iconst 1 :: .isub :: .putfield 804 :: .aload 1 :: .iconst 80 :: .iconst 4 :: .iload 4 :: .imul :: .iadd :: .iload 8 :: .iadd :: .iconst 50 :: .isub :: .aload 0 :: .getfield 797 :: .aload 0 :: .getfield 804 :: .iaload :: .invokestatic 207 :: .iastore :: .goto 201 :: k_210_153
theorem fl_210_3 : m_fl (s_210.drop 3) = k_210_98 := (show m_fl (s_210.drop 3) = [.iload 8, .i2l, .ldc2_w 50, .ldc2_w 53, .invokestatic 153, .ifCond .eq 153, .aload 0, .dup, .getfield 804, .iconst 1, .isub, .putfield 804, .aload 1, .iconst 80, .iconst 4, .iload 4, .imul, .iadd, .iload 8, .iadd, .iconst 50, .isub, .aload 0, .getfield 797, .aload 0, .getfield 804, .iaload, .invokestatic 207, .iastore, .goto 201] ++ m_fl (s_210.drop 4) from rfl).trans (by rw [fl_210_4]; rfl)
noncomputable def k_210_42 : List Instr := .iload 8 :: .i2l :: .ldc2_w 40 :: .ldc2_w 47 :: .invokestatic 153 :: .ifCond .eq 98 :: .aload 0 :: .dup :: .getfield 804 :: .iconst 1 :: .isub :: .putfield 804 :: .aload 1 :: .iconst 48 :: .iconst 8 :: .iload 4 :: .imul :: .iadd :: .iload 8 :: .iadd :: .iconst 40 :: .isub :: .aload 0 :: .getfield 797 :: .aload 0 :: .getfield 804 :: .iaload :: .invokestatic 207 :: .iastore :: .goto 201 :: k_210_98
theorem fl_210_2 : m_fl (s_210.drop 2) = k_210_42 := (show m_fl (s_210.drop 2) = [.iload 8, .i2l, .ldc2_w 40, .ldc2_w 47, .invokestatic 153, .ifCond .eq 98, .aload 0, .dup, .getfield 804, .iconst 1, .isub, .putfield 804, .aload 1, .iconst 48, .iconst 8, .iload 4, .imul, .iadd, .iload 8, .iadd, .iconst 40, .isub, .aload 0, .getfield 797, .aload 0, .getfield 804, .iaload, .invokestatic 207, .iastore, .goto 201] ++ m_fl (s_210.drop 3) from rfl).trans (by rw [fl_210_3]; rfl)
noncomputable def k_210_15 : List Instr := .iload 7 :: .iload 3 :: .if_icmp .ge 207 :: .aload 0 :: .getfield 777 :: .iload 7 :: .iaload :: .istore 8 :: .aload 0 :: .iload 8 :: .invokevirtual 208 :: .ifCond .eq 42 :: .goto 201 :: k_210_42
theorem fl_210_1 : m_fl (s_210.drop 1) = k_210_15 := (show m_fl (s_210.drop 1) = [.iload 7, .iload 3, .if_icmp .ge 207, .aload 0, .getfield 777, .iload 7, .iaload, .istore 8, .aload 0, .iload 8, .invokevirtual 208, .ifCond .eq 42, .goto 201] ++ m_fl (s_210.drop 2) from rfl).trans (by rw [fl_210_2]; rfl)
noncomputable def k_210_0 : List Instr := .aload 0 :: .iconst 0 :: .putfield 804 :: .aload 0 :: .getfield 797 :: .iconst 0 :: .iconst 0 :: .iastore :: .iload 2 :: .istore 7 :: k_210_15
theorem fl_210_0 : m_fl (s_210.drop 0) = k_210_0 := (show m_fl (s_210.drop 0) = [.aload 0, .iconst 0, .putfield 804, .aload 0, .getfield 797, .iconst 0, .iconst 0, .iastore, .iload 2, .istore 7] ++ m_fl (s_210.drop 1) from rfl).trans (by rw [fl_210_1]; rfl)
theorem tn_210_0 {L : Nat} {xs : Nat → Int32} : m_tg (p_P L xs) 210 0 = k_210_0 := (show m_tgl s_210 0 = m_fl (s_210.drop 0) from rfl).trans fl_210_0
theorem tg_210_15 {L : Nat} {xs : Nat → Int32} : m_tg (p_P L xs) 210 15 = k_210_15 := (show m_tgl s_210 15 = m_fl (s_210.drop 1) from rfl).trans fl_210_1
theorem tg_210_42 {L : Nat} {xs : Nat → Int32} : m_tg (p_P L xs) 210 42 = k_210_42 := (show m_tgl s_210 42 = m_fl (s_210.drop 2) from rfl).trans fl_210_2
theorem tg_210_98 {L : Nat} {xs : Nat → Int32} : m_tg (p_P L xs) 210 98 = k_210_98 := (show m_tgl s_210 98 = m_fl (s_210.drop 3) from rfl).trans fl_210_3
theorem tg_210_153 {L : Nat} {xs : Nat → Int32} : m_tg (p_P L xs) 210 153 = k_210_153 := (show m_tgl s_210 153 = m_fl (s_210.drop 4) from rfl).trans fl_210_4
theorem tg_210_178 {L : Nat} {xs : Nat → Int32} : m_tg (p_P L xs) 210 178 = k_210_178 := (show m_tgl s_210 178 = m_fl (s_210.drop 5) from rfl).trans fl_210_5
theorem tg_210_190 {L : Nat} {xs : Nat → Int32} : m_tg (p_P L xs) 210 190 = k_210_190 := (show m_tgl s_210 190 = m_fl (s_210.drop 6) from rfl).trans fl_210_6
theorem tg_210_201 {L : Nat} {xs : Nat → Int32} : m_tg (p_P L xs) 210 201 = k_210_201 := (show m_tgl s_210 201 = m_fl (s_210.drop 7) from rfl).trans fl_210_7
theorem tg_210_207 {L : Nat} {xs : Nat → Int32} : m_tg (p_P L xs) 210 207 = k_210_207 := (show m_tgl s_210 207 = m_fl (s_210.drop 8) from rfl).trans fl_210_8
noncomputable def k_211_0 : List Instr := .aload 0 :: .iconst 192 :: .iconst 14 :: .iload 1 :: .imul :: .iadd :: .iload 2 :: .iadd :: .iaload :: .ireturn :: []
theorem fl_211_0 : m_fl (s_211.drop 0) = k_211_0 := rfl
theorem tn_211_0 {L : Nat} {xs : Nat → Int32} : m_tg (p_P L xs) 211 0 = k_211_0 := (show m_tgl s_211 0 = m_fl (s_211.drop 0) from rfl).trans fl_211_0
noncomputable def k_212_0 : List Instr := .aload 0 :: .iconst 192 :: .iconst 14 :: .iload 1 :: .imul :: .iadd :: .iload 2 :: .iadd :: .iload 3 :: .iastore :: .return_ :: []
theorem fl_212_0 : m_fl (s_212.drop 0) = k_212_0 := rfl
theorem tn_212_0 {L : Nat} {xs : Nat → Int32} : m_tg (p_P L xs) 212 0 = k_212_0 := (show m_tgl s_212 0 = m_fl (s_212.drop 0) from rfl).trans fl_212_0
noncomputable def k_213_46 : List Instr := .ret 0 :: []
theorem fl_213_2 : m_fl (s_213.drop 2) = k_213_46 := rfl
noncomputable def k_213_45 : List Instr := .iconst 0 :: k_213_46
theorem fl_213_1 : m_fl (s_213.drop 1) = k_213_45 := (show m_fl (s_213.drop 1) = [.iconst 0] ++ m_fl (s_213.drop 2) from rfl).trans (by rw [fl_213_2]; rfl)
noncomputable def k_213_0 : List Instr := .aload 1 :: .iload 2 :: .iconst 1 :: .invokestatic 211 :: .istore 3 :: .aload 0 :: .aload 1 :: .aload 0 :: .getfield 776 :: .iload 3 :: .iaload :: .aload 0 :: .getfield 772 :: .iload 3 :: .iaload :: .aload 1 :: .iload 2 :: .iconst 0 :: .invokestatic 211 :: .aload 1 :: .iload 2 :: .iconst 2 :: .invokestatic 211 :: .iconst 0 :: .invokevirtual 210 :: .iconst 1 :: .if_icmp .ne 45 :: .iconst 1 :: .goto 46 :: k_213_45
theorem fl_213_0 : m_fl (s_213.drop 0) = k_213_0 := (show m_fl (s_213.drop 0) = [.aload 1, .iload 2, .iconst 1, .invokestatic 211, .istore 3, .aload 0, .aload 1, .aload 0, .getfield 776, .iload 3, .iaload, .aload 0, .getfield 772, .iload 3, .iaload, .aload 1, .iload 2, .iconst 0, .invokestatic 211, .aload 1, .iload 2, .iconst 2, .invokestatic 211, .iconst 0, .invokevirtual 210, .iconst 1, .if_icmp .ne 45, .iconst 1, .goto 46] ++ m_fl (s_213.drop 1) from rfl).trans (by rw [fl_213_1]; rfl)
theorem tn_213_0 {L : Nat} {xs : Nat → Int32} : m_tg (p_P L xs) 213 0 = k_213_0 := (show m_tgl s_213 0 = m_fl (s_213.drop 0) from rfl).trans fl_213_0
theorem tg_213_45 {L : Nat} {xs : Nat → Int32} : m_tg (p_P L xs) 213 45 = k_213_45 := (show m_tgl s_213 45 = m_fl (s_213.drop 1) from rfl).trans fl_213_1
theorem tg_213_46 {L : Nat} {xs : Nat → Int32} : m_tg (p_P L xs) 213 46 = k_213_46 := (show m_tgl s_213 46 = m_fl (s_213.drop 2) from rfl).trans fl_213_2
noncomputable def k_214_0 : List Instr := .aload 1 :: .iload 2 :: .iconst 1 :: .invokestatic 211 :: .istore 3 :: .aload 0 :: .aload 1 :: .aload 0 :: .getfield 772 :: .iload 3 :: .iaload :: .aload 0 :: .getfield 773 :: .iload 3 :: .iaload :: .aload 1 :: .iload 2 :: .iconst 0 :: .invokestatic 211 :: .aload 1 :: .iload 2 :: .iconst 2 :: .invokestatic 211 :: .iconst 0 :: .invokevirtual 210 :: .ireturn :: []
theorem fl_214_0 : m_fl (s_214.drop 0) = k_214_0 := rfl
theorem tn_214_0 {L : Nat} {xs : Nat → Int32} : m_tg (p_P L xs) 214 0 = k_214_0 := (show m_tgl s_214 0 = m_fl (s_214.drop 0) from rfl).trans fl_214_0
noncomputable def k_215_0 : List Instr := .aload 1 :: .iload 2 :: .iconst 1 :: .invokestatic 211 :: .istore 3 :: .aload 0 :: .aload 1 :: .aload 0 :: .getfield 774 :: .iload 3 :: .iaload :: .aload 0 :: .getfield 775 :: .iload 3 :: .iaload :: .aload 1 :: .iload 2 :: .iconst 0 :: .invokestatic 211 :: .aload 1 :: .iload 2 :: .iconst 2 :: .invokestatic 211 :: .aload 1 :: .iload 2 :: .iconst 8 :: .invokestatic 211 :: .invokevirtual 210 :: .pop :: .return_ :: []
theorem fl_215_0 : m_fl (s_215.drop 0) = k_215_0 := rfl
theorem tn_215_0 {L : Nat} {xs : Nat → Int32} : m_tg (p_P L xs) 215 0 = k_215_0 := (show m_tgl s_215 0 = m_fl (s_215.drop 0) from rfl).trans fl_215_0
noncomputable def k_216_60 : List Instr := .iconst 1592 :: .iconst 4 :: .aload 1 :: .iconst 2 :: .iaload :: .imul :: .iadd :: .istore 5 :: .aload 1 :: .iload 5 :: .aload 1 :: .iconst 0 :: .iaload :: .iastore :: .aload 1 :: .iload 5 :: .iconst 1 :: .iadd :: .iload 2 :: .iastore :: .aload 1 :: .iload 5 :: .iconst 2 :: .iadd :: .iload 3 :: .iastore :: .aload 1 :: .iload 5 :: .iconst 3 :: .iadd :: .iload 4 :: .iastore :: .aload 1 :: .iconst 2 :: .dup2 :: .iaload :: .iconst 1 :: .iadd :: .iastore :: .return_ :: []
theorem fl_216_3 : m_fl (s_216.drop 3) = k_216_60 := rfl
noncomputable def k_216_53 : List Instr := .aload 1 :: .iconst 2 :: .dup2 :: .iaload :: .iconst 1 :: .isub :: .iastore :: k_216_60
theorem fl_216_2 : m_fl (s_216.drop 2) = k_216_53 := (show m_fl (s_216.drop 2) = [.aload 1, .iconst 2, .dup2, .iaload, .iconst 1, .isub, .iastore] ++ m_fl (s_216.drop 3) from rfl).trans (by rw [fl_216_3]; rfl)
noncomputable def k_216_21 : List Instr := .iload 5 :: .iconst 800 :: .if_icmp .ge 53 :: .aload 1 :: .iconst 1592 :: .iload 5 :: .iadd :: .iconst 4 :: .isub :: .aload 1 :: .iconst 1592 :: .iload 5 :: .iadd :: .iaload :: .iastore :: .iinc 5 1 :: .goto 21 :: k_216_53
theorem fl_216_1 : m_fl (s_216.drop 1) = k_216_21 := (show m_fl (s_216.drop 1) = [.iload 5, .iconst 800, .if_icmp .ge 53, .aload 1, .iconst 1592, .iload 5, .iadd, .iconst 4, .isub, .aload 1, .iconst 1592, .iload 5, .iadd, .iaload, .iastore, .iinc 5 1, .goto 21] ++ m_fl (s_216.drop 2) from rfl).trans (by rw [fl_216_2]; rfl)
noncomputable def k_216_0 : List Instr := .aload 1 :: .iconst 3 :: .iload 2 :: .iadd :: .dup2 :: .iaload :: .iconst 1 :: .iadd :: .iastore :: .aload 1 :: .iconst 2 :: .iaload :: .iconst 200 :: .if_icmp .ne 60 :: .iconst 4 :: .istore 5 :: k_216_21
theorem fl_216_0 : m_fl (s_216.drop 0) = k_216_0 := (show m_fl (s_216.drop 0) = [.aload 1, .iconst 3, .iload 2, .iadd, .dup2, .iaload, .iconst 1, .iadd, .iastore, .aload 1, .iconst 2, .iaload, .iconst 200, .if_icmp .ne 60, .iconst 4, .istore 5] ++ m_fl (s_216.drop 1) from rfl).trans (by rw [fl_216_1]; rfl)
theorem tn_216_0 {L : Nat} {xs : Nat → Int32} : m_tg (p_P L xs) 216 0 = k_216_0 := (show m_tgl s_216 0 = m_fl (s_216.drop 0) from rfl).trans fl_216_0
theorem tg_216_21 {L : Nat} {xs : Nat → Int32} : m_tg (p_P L xs) 216 21 = k_216_21 := (show m_tgl s_216 21 = m_fl (s_216.drop 1) from rfl).trans fl_216_1
theorem tg_216_53 {L : Nat} {xs : Nat → Int32} : m_tg (p_P L xs) 216 53 = k_216_53 := (show m_tgl s_216 53 = m_fl (s_216.drop 2) from rfl).trans fl_216_2
theorem tg_216_60 {L : Nat} {xs : Nat → Int32} : m_tg (p_P L xs) 216 60 = k_216_60 := (show m_tgl s_216 60 = m_fl (s_216.drop 3) from rfl).trans fl_216_3
noncomputable def k_217_72 : List Instr := .aload 0 :: .aload 1 :: .iconst 3 :: .iload 4 :: .iload 2 :: .invokevirtual 216 :: .return_ :: []
theorem fl_217_2 : m_fl (s_217.drop 2) = k_217_72 := rfl
noncomputable def k_217_53 : List Instr := .aload 1 :: .iconst 32 :: .iload 4 :: .iadd :: .iaload :: .iload 2 :: .if_icmp .ne 72 :: .aload 1 :: .iconst 32 :: .iload 4 :: .iadd :: .iconst (-1) :: .iastore :: k_217_72
theorem fl_217_1 : m_fl (s_217.drop 1) = k_217_53 := (show m_fl (s_217.drop 1) = [.aload 1, .iconst 32, .iload 4, .iadd, .iaload, .iload 2, .if_icmp .ne 72, .aload 1, .iconst 32, .iload 4, .iadd, .iconst (-1), .iastore] ++ m_fl (s_217.drop 2) from rfl).trans (by rw [fl_217_2]; rfl)
noncomputable def k_217_0 : List Instr := .aload 1 :: .iload 2 :: .iconst 0 :: .invokestatic 211 :: .istore 4 :: .aload 1 :: .iload 2 :: .iconst 6 :: .iconst 3 :: .invokestatic 212 :: .aload 1 :: .iload 2 :: .iconst 7 :: .iload 3 :: .invokestatic 212 :: .aload 1 :: .iload 2 :: .iconst 13 :: .aload 1 :: .iconst 0 :: .iaload :: .invokestatic 212 :: .aload 1 :: .iconst 28 :: .iload 4 :: .iadd :: .iaload :: .iload 2 :: .if_icmp .ne 53 :: .aload 1 :: .iconst 28 :: .iload 4 :: .iadd :: .iconst (-1) :: .iastore :: k_217_53
theorem fl_217_0 : m_fl (s_217.drop 0) = k_217_0 := (show m_fl (s_217.drop 0) = [.aload 1, .iload 2, .iconst 0, .invokestatic 211, .istore 4, .aload 1, .iload 2, .iconst 6, .iconst 3, .invokestatic 212, .aload 1, .iload 2, .iconst 7, .iload 3, .invokestatic 212, .aload 1, .iload 2, .iconst 13, .aload 1, .iconst 0, .iaload, .invokestatic 212, .aload 1, .iconst 28, .iload 4, .iadd, .iaload, .iload 2, .if_icmp .ne 53, .aload 1, .iconst 28, .iload 4, .iadd, .iconst (-1), .iastore] ++ m_fl (s_217.drop 1) from rfl).trans (by rw [fl_217_1]; rfl)
theorem tn_217_0 {L : Nat} {xs : Nat → Int32} : m_tg (p_P L xs) 217 0 = k_217_0 := (show m_tgl s_217 0 = m_fl (s_217.drop 0) from rfl).trans fl_217_0
theorem tg_217_53 {L : Nat} {xs : Nat → Int32} : m_tg (p_P L xs) 217 53 = k_217_53 := (show m_tgl s_217 53 = m_fl (s_217.drop 1) from rfl).trans fl_217_1
theorem tg_217_72 {L : Nat} {xs : Nat → Int32} : m_tg (p_P L xs) 217 72 = k_217_72 := (show m_tgl s_217 72 = m_fl (s_217.drop 2) from rfl).trans fl_217_2
noncomputable def k_218_33 : List Instr := .aload 1 :: .iconst 44 :: .iload 2 :: .iadd :: .iconst 0 :: .iastore :: .aload 0 :: .aload 1 :: .iconst 6 :: .iload 2 :: .iconst (-1) :: .invokevirtual 216 :: .return_ :: []
theorem fl_218_2 : m_fl (s_218.drop 2) = k_218_33 := rfl
noncomputable def k_218_2 : List Instr := .iload 3 :: .iconst 4 :: .if_icmp .ge 33 :: .aload 1 :: .iconst 96 :: .iconst 4 :: .iload 2 :: .imul :: .iadd :: .iload 3 :: .iadd :: .aload 1 :: .iconst 80 :: .iconst 4 :: .iload 2 :: .imul :: .iadd :: .iload 3 :: .iadd :: .iaload :: .iastore :: .iinc 3 1 :: .goto 2 :: k_218_33
theorem fl_218_1 : m_fl (s_218.drop 1) = k_218_2 := (show m_fl (s_218.drop 1) = [.iload 3, .iconst 4, .if_icmp .ge 33, .aload 1, .iconst 96, .iconst 4, .iload 2, .imul, .iadd, .iload 3, .iadd, .aload 1, .iconst 80, .iconst 4, .iload 2, .imul, .iadd, .iload 3, .iadd, .iaload, .iastore, .iinc 3 1, .goto 2] ++ m_fl (s_218.drop 2) from rfl).trans (by rw [fl_218_2]; rfl)
noncomputable def k_218_0 : List Instr := .iconst 0 :: .istore 3 :: k_218_2
theorem fl_218_0 : m_fl (s_218.drop 0) = k_218_0 := (show m_fl (s_218.drop 0) = [.iconst 0, .istore 3] ++ m_fl (s_218.drop 1) from rfl).trans (by rw [fl_218_1]; rfl)
theorem tn_218_0 {L : Nat} {xs : Nat → Int32} : m_tg (p_P L xs) 218 0 = k_218_0 := (show m_tgl s_218 0 = m_fl (s_218.drop 0) from rfl).trans fl_218_0
theorem tg_218_2 {L : Nat} {xs : Nat → Int32} : m_tg (p_P L xs) 218 2 = k_218_2 := (show m_tgl s_218 2 = m_fl (s_218.drop 1) from rfl).trans fl_218_1
theorem tg_218_33 {L : Nat} {xs : Nat → Int32} : m_tg (p_P L xs) 218 33 = k_218_33 := (show m_tgl s_218 33 = m_fl (s_218.drop 2) from rfl).trans fl_218_2
noncomputable def k_219_111 : List Instr := .return_ :: []
theorem fl_219_1 : m_fl (s_219.drop 1) = k_219_111 := rfl
noncomputable def k_219_0 : List Instr := .aload 1 :: .iload 2 :: .iconst 0 :: .invokestatic 211 :: .istore 4 :: .aload 1 :: .iload 2 :: .iconst 6 :: .iconst 2 :: .invokestatic 212 :: .aload 1 :: .iload 2 :: .iconst 8 :: .iload 3 :: .invokestatic 212 :: .aload 1 :: .iload 2 :: .iconst 13 :: .aload 1 :: .iconst 0 :: .iaload :: .invokestatic 212 :: .aload 1 :: .iconst 32 :: .iload 4 :: .iadd :: .iconst (-1) :: .iastore :: .aload 0 :: .aload 1 :: .iconst 2 :: .iload 4 :: .iload 2 :: .invokevirtual 216 :: .aload 0 :: .aload 1 :: .iload 2 :: .invokevirtual 215 :: .aload 1 :: .iconst 112 :: .iconst 20 :: .iload 4 :: .imul :: .iadd :: .aload 1 :: .iconst 44 :: .iload 4 :: .iadd :: .iaload :: .iadd :: .iload 2 :: .iastore :: .aload 1 :: .iconst 44 :: .iload 4 :: .iadd :: .dup2 :: .iaload :: .iconst 1 :: .iadd :: .iastore :: .aload 1 :: .iconst 44 :: .iload 4 :: .iadd :: .iaload :: .aload 0 :: .getfield 769 :: .iconst 7 :: .iaload :: .if_icmp .lt 111 :: .aload 0 :: .aload 1 :: .iload 4 :: .invokevirtual 218 :: k_219_111
theorem fl_219_0 : m_fl (s_219.drop 0) = k_219_0 := (show m_fl (s_219.drop 0) = [.aload 1, .iload 2, .iconst 0, .invokestatic 211, .istore 4, .aload 1, .iload 2, .iconst 6, .iconst 2, .invokestatic 212, .aload 1, .iload 2, .iconst 8, .iload 3, .invokestatic 212, .aload 1, .iload 2, .iconst 13, .aload 1, .iconst 0, .iaload, .invokestatic 212, .aload 1, .iconst 32, .iload 4, .iadd, .iconst (-1), .iastore, .aload 0, .aload 1, .iconst 2, .iload 4, .iload 2, .invokevirtual 216, .aload 0, .aload 1, .iload 2, .invokevirtual 215, .aload 1, .iconst 112, .iconst 20, .iload 4, .imul, .iadd, .aload 1, .iconst 44, .iload 4, .iadd, .iaload, .iadd, .iload 2, .iastore, .aload 1, .iconst 44, .iload 4, .iadd, .dup2, .iaload, .iconst 1, .iadd, .iastore, .aload 1, .iconst 44, .iload 4, .iadd, .iaload, .aload 0, .getfield 769, .iconst 7, .iaload, .if_icmp .lt 111, .aload 0, .aload 1, .iload 4, .invokevirtual 218] ++ m_fl (s_219.drop 1) from rfl).trans (by rw [fl_219_1]; rfl)
theorem tn_219_0 {L : Nat} {xs : Nat → Int32} : m_tg (p_P L xs) 219 0 = k_219_0 := (show m_tgl s_219 0 = m_fl (s_219.drop 0) from rfl).trans fl_219_0
theorem tg_219_111 {L : Nat} {xs : Nat → Int32} : m_tg (p_P L xs) 219 111 = k_219_111 := (show m_tgl s_219 111 = m_fl (s_219.drop 1) from rfl).trans fl_219_1
noncomputable def k_220_24 : List Instr := .return_ :: []
theorem fl_220_2 : m_fl (s_220.drop 2) = k_220_24 := rfl
noncomputable def k_220_2 : List Instr := .iload 2 :: .iconst 4 :: .if_icmp .ge 24 :: .aload 0 :: .iconst 80 :: .iconst 4 :: .iload 1 :: .imul :: .iadd :: .iload 2 :: .iadd :: .iconst 0 :: .iastore :: .iinc 2 1 :: .goto 2 :: k_220_24
theorem fl_220_1 : m_fl (s_220.drop 1) = k_220_2 := (show m_fl (s_220.drop 1) = [.iload 2, .iconst 4, .if_icmp .ge 24, .aload 0, .iconst 80, .iconst 4, .iload 1, .imul, .iadd, .iload 2, .iadd, .iconst 0, .iastore, .iinc 2 1, .goto 2] ++ m_fl (s_220.drop 2) from rfl).trans (by rw [fl_220_2]; rfl)
noncomputable def k_220_0 : List Instr := .iconst 0 :: .istore 2 :: k_220_2
theorem fl_220_0 : m_fl (s_220.drop 0) = k_220_0 := (show m_fl (s_220.drop 0) = [.iconst 0, .istore 2] ++ m_fl (s_220.drop 1) from rfl).trans (by rw [fl_220_1]; rfl)
theorem tn_220_0 {L : Nat} {xs : Nat → Int32} : m_tg (p_P L xs) 220 0 = k_220_0 := (show m_tgl s_220 0 = m_fl (s_220.drop 0) from rfl).trans fl_220_0
theorem tg_220_2 {L : Nat} {xs : Nat → Int32} : m_tg (p_P L xs) 220 2 = k_220_2 := (show m_tgl s_220 2 = m_fl (s_220.drop 1) from rfl).trans fl_220_1
theorem tg_220_24 {L : Nat} {xs : Nat → Int32} : m_tg (p_P L xs) 220 24 = k_220_24 := (show m_tgl s_220 24 = m_fl (s_220.drop 2) from rfl).trans fl_220_2
noncomputable def k_221_33 : List Instr := .iload 2 :: .aload 0 :: .getfield 769 :: .iconst 3 :: .iaload :: .invokestatic 155 :: .ireturn :: []
theorem fl_221_2 : m_fl (s_221.drop 2) = k_221_33 := rfl
noncomputable def k_221_9 : List Instr := .iload 3 :: .iload 1 :: .if_icmp .ge 33 :: .iconst 2 :: .iload 2 :: .imul :: .aload 0 :: .getfield 769 :: .iconst 3 :: .iaload :: .invokestatic 155 :: .istore 2 :: .iinc 3 1 :: .goto 9 :: k_221_33
theorem fl_221_1 : m_fl (s_221.drop 1) = k_221_9 := (show m_fl (s_221.drop 1) = [.iload 3, .iload 1, .if_icmp .ge 33, .iconst 2, .iload 2, .imul, .aload 0, .getfield 769, .iconst 3, .iaload, .invokestatic 155, .istore 2, .iinc 3 1, .goto 9] ++ m_fl (s_221.drop 2) from rfl).trans (by rw [fl_221_2]; rfl)
noncomputable def k_221_0 : List Instr := .aload 0 :: .getfield 769 :: .iconst 2 :: .iaload :: .istore 2 :: .iconst 1 :: .istore 3 :: k_221_9
theorem fl_221_0 : m_fl (s_221.drop 0) = k_221_0 := (show m_fl (s_221.drop 0) = [.aload 0, .getfield 769, .iconst 2, .iaload, .istore 2, .iconst 1, .istore 3] ++ m_fl (s_221.drop 1) from rfl).trans (by rw [fl_221_1]; rfl)
theorem tn_221_0 {L : Nat} {xs : Nat → Int32} : m_tg (p_P L xs) 221 0 = k_221_0 := (show m_tgl s_221 0 = m_fl (s_221.drop 0) from rfl).trans fl_221_0
theorem tg_221_9 {L : Nat} {xs : Nat → Int32} : m_tg (p_P L xs) 221 9 = k_221_9 := (show m_tgl s_221 9 = m_fl (s_221.drop 1) from rfl).trans fl_221_1
theorem tg_221_33 {L : Nat} {xs : Nat → Int32} : m_tg (p_P L xs) 221 33 = k_221_33 := (show m_tgl s_221 33 = m_fl (s_221.drop 2) from rfl).trans fl_221_2
noncomputable def k_222_184 : List Instr := .return_ :: []
theorem fl_222_5 : m_fl (s_222.drop 5) = k_222_184 := rfl
noncomputable def k_222_178 : List Instr := .iinc 4 1 :: .goto 139 :: k_222_184
theorem fl_222_4 : m_fl (s_222.drop 4) = k_222_178 := (show m_fl (s_222.drop 4) = [.iinc 4 1, .goto 139] ++ m_fl (s_222.drop 5) from rfl).trans (by rw [fl_222_5]; rfl)
noncomputable def k_222_139 : List Instr := .iload 4 :: .aload 1 :: .iconst 1 :: .iaload :: .if_icmp .ge 184 :: .aload 1 :: .iload 4 :: .iconst 0 :: .invokestatic 211 :: .iload 2 :: .if_icmp .ne 178 :: .aload 1 :: .iload 4 :: .iconst 6 :: .invokestatic 211 :: .iconst 2 :: .if_icmp .ge 178 :: .aload 0 :: .aload 1 :: .iload 4 :: .iconst 5 :: .invokevirtual 217 :: k_222_178
theorem fl_222_3 : m_fl (s_222.drop 3) = k_222_139 := (show m_fl (s_222.drop 3) = [.iload 4, .aload 1, .iconst 1, .iaload, .if_icmp .ge 184, .aload 1, .iload 4, .iconst 0, .invokestatic 211, .iload 2, .if_icmp .ne 178, .aload 1, .iload 4, .iconst 6, .invokestatic 211, .iconst 2, .if_icmp .ge 178, .aload 0, .aload 1, .iload 4, .iconst 5, .invokevirtual 217] ++ m_fl (s_222.drop 4) from rfl).trans (by rw [fl_222_4]; rfl)
noncomputable def k_222_120 : List Instr := .aload 1 :: .iconst 12 :: .iload 2 :: .iadd :: .iconst 2 :: .iastore :: .aload 0 :: .aload 1 :: .iconst 8 :: .iload 2 :: .iconst (-1) :: .invokevirtual 216 :: .iconst 0 :: .istore 4 :: k_222_139
theorem fl_222_2 : m_fl (s_222.drop 2) = k_222_120 := (show m_fl (s_222.drop 2) = [.aload 1, .iconst 12, .iload 2, .iadd, .iconst 2, .iastore, .aload 0, .aload 1, .iconst 8, .iload 2, .iconst (-1), .invokevirtual 216, .iconst 0, .istore 4] ++ m_fl (s_222.drop 3) from rfl).trans (by rw [fl_222_3]; rfl)
noncomputable def k_222_75 : List Instr := .aload 1 :: .iconst 20 :: .iload 2 :: .iadd :: .iaload :: .aload 0 :: .getfield 769 :: .iconst 5 :: .iaload :: .if_icmp .gt 120 :: .aload 1 :: .iconst 12 :: .iload 2 :: .iadd :: .iconst 1 :: .iastore :: .aload 1 :: .iconst 16 :: .iload 2 :: .iadd :: .aload 1 :: .iconst 0 :: .iaload :: .iconst 1 :: .iadd :: .aload 0 :: .aload 1 :: .iconst 20 :: .iload 2 :: .iadd :: .iaload :: .invokevirtual 221 :: .iadd :: .iastore :: .return_ :: k_222_120
theorem fl_222_1 : m_fl (s_222.drop 1) = k_222_75 := (show m_fl (s_222.drop 1) = [.aload 1, .iconst 20, .iload 2, .iadd, .iaload, .aload 0, .getfield 769, .iconst 5, .iaload, .if_icmp .gt 120, .aload 1, .iconst 12, .iload 2, .iadd, .iconst 1, .iastore, .aload 1, .iconst 16, .iload 2, .iadd, .aload 1, .iconst 0, .iaload, .iconst 1, .iadd, .aload 0, .aload 1, .iconst 20, .iload 2, .iadd, .iaload, .invokevirtual 221, .iadd, .iastore, .return_] ++ m_fl (s_222.drop 2) from rfl).trans (by rw [fl_222_2]; rfl)
noncomputable def k_222_0 : List Instr := .aload 0 :: .aload 1 :: .iconst 4 :: .iload 2 :: .iconst (-1) :: .invokevirtual 216 :: .aload 1 :: .iconst 20 :: .iload 2 :: .iadd :: .dup2 :: .iaload :: .iconst 1 :: .iadd :: .iastore :: .aload 1 :: .iload 2 :: .invokestatic 220 :: .aload 1 :: .iconst 32 :: .iload 2 :: .iadd :: .iaload :: .istore 3 :: .iload 3 :: .iconst (-1) :: .if_icmp .eq 75 :: .aload 1 :: .iload 3 :: .iconst 10 :: .aload 1 :: .iload 3 :: .iconst 10 :: .invokestatic 211 :: .iconst 1 :: .iadd :: .invokestatic 212 :: .aload 1 :: .iload 3 :: .iconst 10 :: .invokestatic 211 :: .aload 0 :: .getfield 769 :: .iconst 6 :: .iaload :: .if_icmp .lt 75 :: .aload 0 :: .aload 1 :: .iload 3 :: .iconst 3 :: .invokevirtual 217 :: k_222_75
theorem fl_222_0 : m_fl (s_222.drop 0) = k_222_0 := (show m_fl (s_222.drop 0) = [.aload 0, .aload 1, .iconst 4, .iload 2, .iconst (-1), .invokevirtual 216, .aload 1, .iconst 20, .iload 2, .iadd, .dup2, .iaload, .iconst 1, .iadd, .iastore, .aload 1, .iload 2, .invokestatic 220, .aload 1, .iconst 32, .iload 2, .iadd, .iaload, .istore 3, .iload 3, .iconst (-1), .if_icmp .eq 75, .aload 1, .iload 3, .iconst 10, .aload 1, .iload 3, .iconst 10, .invokestatic 211, .iconst 1, .iadd, .invokestatic 212, .aload 1, .iload 3, .iconst 10, .invokestatic 211, .aload 0, .getfield 769, .iconst 6, .iaload, .if_icmp .lt 75, .aload 0, .aload 1, .iload 3, .iconst 3, .invokevirtual 217] ++ m_fl (s_222.drop 1) from rfl).trans (by rw [fl_222_1]; rfl)
theorem tn_222_0 {L : Nat} {xs : Nat → Int32} : m_tg (p_P L xs) 222 0 = k_222_0 := (show m_tgl s_222 0 = m_fl (s_222.drop 0) from rfl).trans fl_222_0
theorem tg_222_75 {L : Nat} {xs : Nat → Int32} : m_tg (p_P L xs) 222 75 = k_222_75 := (show m_tgl s_222 75 = m_fl (s_222.drop 1) from rfl).trans fl_222_1
theorem tg_222_120 {L : Nat} {xs : Nat → Int32} : m_tg (p_P L xs) 222 120 = k_222_120 := (show m_tgl s_222 120 = m_fl (s_222.drop 2) from rfl).trans fl_222_2
theorem tg_222_139 {L : Nat} {xs : Nat → Int32} : m_tg (p_P L xs) 222 139 = k_222_139 := (show m_tgl s_222 139 = m_fl (s_222.drop 3) from rfl).trans fl_222_3
theorem tg_222_178 {L : Nat} {xs : Nat → Int32} : m_tg (p_P L xs) 222 178 = k_222_178 := (show m_tgl s_222 178 = m_fl (s_222.drop 4) from rfl).trans fl_222_4
theorem tg_222_184 {L : Nat} {xs : Nat → Int32} : m_tg (p_P L xs) 222 184 = k_222_184 := (show m_tgl s_222 184 = m_fl (s_222.drop 5) from rfl).trans fl_222_5
noncomputable def k_223_90 : List Instr := .return_ :: []
theorem fl_223_3 : m_fl (s_223.drop 3) = k_223_90 := rfl
noncomputable def k_223_59 : List Instr := .aload 1 :: .iload 3 :: .iconst 6 :: .iconst 0 :: .invokestatic 212 :: .aload 1 :: .iconst 28 :: .iload 2 :: .iadd :: .iload 3 :: .iastore :: .aload 1 :: .iconst 32 :: .iload 2 :: .iadd :: .iconst (-1) :: .iastore :: .aload 0 :: .aload 1 :: .iconst 7 :: .iload 2 :: .iload 3 :: .invokevirtual 216 :: k_223_90
theorem fl_223_2 : m_fl (s_223.drop 2) = k_223_59 := (show m_fl (s_223.drop 2) = [.aload 1, .iload 3, .iconst 6, .iconst 0, .invokestatic 212, .aload 1, .iconst 28, .iload 2, .iadd, .iload 3, .iastore, .aload 1, .iconst 32, .iload 2, .iadd, .iconst (-1), .iastore, .aload 0, .aload 1, .iconst 7, .iload 2, .iload 3, .invokevirtual 216] ++ m_fl (s_223.drop 3) from rfl).trans (by rw [fl_223_3]; rfl)
noncomputable def k_223_29 : List Instr := .iload 4 :: .iconst 3 :: .if_icmp .ne 59 :: .aload 0 :: .aload 1 :: .iload 3 :: .invokevirtual 213 :: .ifCond .eq 59 :: .aload 0 :: .aload 1 :: .iload 3 :: .aload 0 :: .aload 1 :: .iload 3 :: .invokevirtual 214 :: .invokevirtual 219 :: .goto 90 :: k_223_59
theorem fl_223_1 : m_fl (s_223.drop 1) = k_223_29 := (show m_fl (s_223.drop 1) = [.iload 4, .iconst 3, .if_icmp .ne 59, .aload 0, .aload 1, .iload 3, .invokevirtual 213, .ifCond .eq 59, .aload 0, .aload 1, .iload 3, .aload 0, .aload 1, .iload 3, .invokevirtual 214, .invokevirtual 219, .goto 90] ++ m_fl (s_223.drop 2) from rfl).trans (by rw [fl_223_2]; rfl)
noncomputable def k_223_0 : List Instr := .aload 0 :: .getfield 770 :: .aload 1 :: .iload 3 :: .iconst 1 :: .invokestatic 211 :: .iaload :: .istore 4 :: .iload 4 :: .iconst 2 :: .if_icmp .ne 29 :: .aload 0 :: .aload 1 :: .iload 3 :: .iconst 2 :: .invokevirtual 217 :: .goto 90 :: k_223_29
theorem fl_223_0 : m_fl (s_223.drop 0) = k_223_0 := (show m_fl (s_223.drop 0) = [.aload 0, .getfield 770, .aload 1, .iload 3, .iconst 1, .invokestatic 211, .iaload, .istore 4, .iload 4, .iconst 2, .if_icmp .ne 29, .aload 0, .aload 1, .iload 3, .iconst 2, .invokevirtual 217, .goto 90] ++ m_fl (s_223.drop 1) from rfl).trans (by rw [fl_223_1]; rfl)
theorem tn_223_0 {L : Nat} {xs : Nat → Int32} : m_tg (p_P L xs) 223 0 = k_223_0 := (show m_tgl s_223 0 = m_fl (s_223.drop 0) from rfl).trans fl_223_0
theorem tg_223_29 {L : Nat} {xs : Nat → Int32} : m_tg (p_P L xs) 223 29 = k_223_29 := (show m_tgl s_223 29 = m_fl (s_223.drop 1) from rfl).trans fl_223_1
theorem tg_223_59 {L : Nat} {xs : Nat → Int32} : m_tg (p_P L xs) 223 59 = k_223_59 := (show m_tgl s_223 59 = m_fl (s_223.drop 2) from rfl).trans fl_223_2
theorem tg_223_90 {L : Nat} {xs : Nat → Int32} : m_tg (p_P L xs) 223 90 = k_223_90 := (show m_tgl s_223 90 = m_fl (s_223.drop 3) from rfl).trans fl_223_3
noncomputable def k_224_113 : List Instr := .return_ :: []
theorem fl_224_5 : m_fl (s_224.drop 5) = k_224_113 := rfl
noncomputable def k_224_91 : List Instr := .aload 1 :: .iconst 32 :: .iload 2 :: .iadd :: .iaload :: .iconst (-1) :: .if_icmp .eq 113 :: .aload 0 :: .aload 1 :: .iload 2 :: .aload 1 :: .iconst 32 :: .iload 2 :: .iadd :: .iaload :: .invokevirtual 223 :: k_224_113
theorem fl_224_4 : m_fl (s_224.drop 4) = k_224_91 := (show m_fl (s_224.drop 4) = [.aload 1, .iconst 32, .iload 2, .iadd, .iaload, .iconst (-1), .if_icmp .eq 113, .aload 0, .aload 1, .iload 2, .aload 1, .iconst 32, .iload 2, .iadd, .iaload, .invokevirtual 223] ++ m_fl (s_224.drop 5) from rfl).trans (by rw [fl_224_5]; rfl)
noncomputable def k_224_59 : List Instr := .iload 3 :: .aload 1 :: .iconst 44 :: .iload 2 :: .iadd :: .iaload :: .if_icmp .ge 91 :: .aload 0 :: .aload 1 :: .aload 1 :: .iconst 112 :: .iconst 20 :: .iload 2 :: .imul :: .iadd :: .iload 3 :: .iadd :: .iaload :: .invokevirtual 215 :: .iinc 3 1 :: .goto 59 :: k_224_91
theorem fl_224_3 : m_fl (s_224.drop 3) = k_224_59 := (show m_fl (s_224.drop 3) = [.iload 3, .aload 1, .iconst 44, .iload 2, .iadd, .iaload, .if_icmp .ge 91, .aload 0, .aload 1, .aload 1, .iconst 112, .iconst 20, .iload 2, .imul, .iadd, .iload 3, .iadd, .iaload, .invokevirtual 215, .iinc 3 1, .goto 59] ++ m_fl (s_224.drop 4) from rfl).trans (by rw [fl_224_4]; rfl)
noncomputable def k_224_57 : List Instr := .iconst 0 :: .istore 3 :: k_224_59
theorem fl_224_2 : m_fl (s_224.drop 2) = k_224_57 := (show m_fl (s_224.drop 2) = [.iconst 0, .istore 3] ++ m_fl (s_224.drop 3) from rfl).trans (by rw [fl_224_3]; rfl)
noncomputable def k_224_26 : List Instr := .iload 3 :: .iconst 4 :: .if_icmp .ge 57 :: .aload 1 :: .iconst 80 :: .iconst 4 :: .iload 2 :: .imul :: .iadd :: .iload 3 :: .iadd :: .aload 1 :: .iconst 96 :: .iconst 4 :: .iload 2 :: .imul :: .iadd :: .iload 3 :: .iadd :: .iaload :: .iastore :: .iinc 3 1 :: .goto 26 :: k_224_57
theorem fl_224_1 : m_fl (s_224.drop 1) = k_224_26 := (show m_fl (s_224.drop 1) = [.iload 3, .iconst 4, .if_icmp .ge 57, .aload 1, .iconst 80, .iconst 4, .iload 2, .imul, .iadd, .iload 3, .iadd, .aload 1, .iconst 96, .iconst 4, .iload 2, .imul, .iadd, .iload 3, .iadd, .iaload, .iastore, .iinc 3 1, .goto 26] ++ m_fl (s_224.drop 2) from rfl).trans (by rw [fl_224_2]; rfl)
noncomputable def k_224_0 : List Instr := .aload 1 :: .iconst 12 :: .iload 2 :: .iadd :: .iconst 0 :: .iastore :: .aload 1 :: .iconst 24 :: .iload 2 :: .iadd :: .aload 1 :: .iconst 0 :: .iaload :: .iastore :: .aload 0 :: .aload 1 :: .iconst 5 :: .iload 2 :: .iconst (-1) :: .invokevirtual 216 :: .iconst 0 :: .istore 3 :: k_224_26
theorem fl_224_0 : m_fl (s_224.drop 0) = k_224_0 := (show m_fl (s_224.drop 0) = [.aload 1, .iconst 12, .iload 2, .iadd, .iconst 0, .iastore, .aload 1, .iconst 24, .iload 2, .iadd, .aload 1, .iconst 0, .iaload, .iastore, .aload 0, .aload 1, .iconst 5, .iload 2, .iconst (-1), .invokevirtual 216, .iconst 0, .istore 3] ++ m_fl (s_224.drop 1) from rfl).trans (by rw [fl_224_1]; rfl)
theorem tn_224_0 {L : Nat} {xs : Nat → Int32} : m_tg (p_P L xs) 224 0 = k_224_0 := (show m_tgl s_224 0 = m_fl (s_224.drop 0) from rfl).trans fl_224_0
theorem tg_224_26 {L : Nat} {xs : Nat → Int32} : m_tg (p_P L xs) 224 26 = k_224_26 := (show m_tgl s_224 26 = m_fl (s_224.drop 1) from rfl).trans fl_224_1
theorem tg_224_57 {L : Nat} {xs : Nat → Int32} : m_tg (p_P L xs) 224 57 = k_224_57 := (show m_tgl s_224 57 = m_fl (s_224.drop 2) from rfl).trans fl_224_2
theorem tg_224_59 {L : Nat} {xs : Nat → Int32} : m_tg (p_P L xs) 224 59 = k_224_59 := (show m_tgl s_224 59 = m_fl (s_224.drop 3) from rfl).trans fl_224_3
theorem tg_224_91 {L : Nat} {xs : Nat → Int32} : m_tg (p_P L xs) 224 91 = k_224_91 := (show m_tgl s_224 91 = m_fl (s_224.drop 4) from rfl).trans fl_224_4
theorem tg_224_113 {L : Nat} {xs : Nat → Int32} : m_tg (p_P L xs) 224 113 = k_224_113 := (show m_tgl s_224 113 = m_fl (s_224.drop 5) from rfl).trans fl_224_5
noncomputable def k_225_82 : List Instr := .iload 3 :: .ireturn :: []
theorem fl_225_5 : m_fl (s_225.drop 5) = k_225_82 := rfl
noncomputable def k_225_76 : List Instr := .iinc 4 1 :: .goto 22 :: k_225_82
theorem fl_225_4 : m_fl (s_225.drop 4) = k_225_76 := (show m_fl (s_225.drop 4) = [.iinc 4 1, .goto 22] ++ m_fl (s_225.drop 5) from rfl).trans (by rw [fl_225_5]; rfl)
noncomputable def k_225_73 : List Instr := .iload 4 :: .istore 3 :: k_225_76
theorem fl_225_3 : m_fl (s_225.drop 3) = k_225_73 := (show m_fl (s_225.drop 3) = [.iload 4, .istore 3] ++ m_fl (s_225.drop 4) from rfl).trans (by rw [fl_225_4]; rfl)
noncomputable def k_225_22 : List Instr := .iload 4 :: .aload 1 :: .iconst 1 :: .iaload :: .if_icmp .ge 82 :: .aload 1 :: .iload 4 :: .iconst 0 :: .invokestatic 211 :: .iload 2 :: .if_icmp .ne 76 :: .aload 1 :: .iload 4 :: .iconst 6 :: .invokestatic 211 :: .ifCond .ne 76 :: .iload 3 :: .iconst (-1) :: .if_icmp .eq 73 :: .aload 1 :: .iload 4 :: .iconst 3 :: .invokestatic 211 :: .aload 1 :: .iload 3 :: .iconst 3 :: .invokestatic 211 :: .if_icmp .le 76 :: k_225_73
theorem fl_225_2 : m_fl (s_225.drop 2) = k_225_22 := (show m_fl (s_225.drop 2) = [.iload 4, .aload 1, .iconst 1, .iaload, .if_icmp .ge 82, .aload 1, .iload 4, .iconst 0, .invokestatic 211, .iload 2, .if_icmp .ne 76, .aload 1, .iload 4, .iconst 6, .invokestatic 211, .ifCond .ne 76, .iload 3, .iconst (-1), .if_icmp .eq 73, .aload 1, .iload 4, .iconst 3, .invokestatic 211, .aload 1, .iload 3, .iconst 3, .invokestatic 211, .if_icmp .le 76] ++ m_fl (s_225.drop 3) from rfl).trans (by rw [fl_225_3]; rfl)
noncomputable def k_225_17 : List Instr := .iconst (-1) :: .istore 3 :: .iconst 0 :: .istore 4 :: k_225_22
theorem fl_225_1 : m_fl (s_225.drop 1) = k_225_17 := (show m_fl (s_225.drop 1) = [.iconst (-1), .istore 3, .iconst 0, .istore 4] ++ m_fl (s_225.drop 2) from rfl).trans (by rw [fl_225_2]; rfl)
noncomputable def k_225_0 : List Instr := .aload 1 :: .iconst 28 :: .iload 2 :: .iadd :: .iaload :: .iconst (-1) :: .if_icmp .eq 17 :: .aload 1 :: .iconst 28 :: .iload 2 :: .iadd :: .iaload :: .ireturn :: k_225_17
theorem fl_225_0 : m_fl (s_225.drop 0) = k_225_0 := (show m_fl (s_225.drop 0) = [.aload 1, .iconst 28, .iload 2, .iadd, .iaload, .iconst (-1), .if_icmp .eq 17, .aload 1, .iconst 28, .iload 2, .iadd, .iaload, .ireturn] ++ m_fl (s_225.drop 1) from rfl).trans (by rw [fl_225_1]; rfl)
theorem tn_225_0 {L : Nat} {xs : Nat → Int32} : m_tg (p_P L xs) 225 0 = k_225_0 := (show m_tgl s_225 0 = m_fl (s_225.drop 0) from rfl).trans fl_225_0
theorem tg_225_17 {L : Nat} {xs : Nat → Int32} : m_tg (p_P L xs) 225 17 = k_225_17 := (show m_tgl s_225 17 = m_fl (s_225.drop 1) from rfl).trans fl_225_1
theorem tg_225_22 {L : Nat} {xs : Nat → Int32} : m_tg (p_P L xs) 225 22 = k_225_22 := (show m_tgl s_225 22 = m_fl (s_225.drop 2) from rfl).trans fl_225_2
theorem tg_225_73 {L : Nat} {xs : Nat → Int32} : m_tg (p_P L xs) 225 73 = k_225_73 := (show m_tgl s_225 73 = m_fl (s_225.drop 3) from rfl).trans fl_225_3
theorem tg_225_76 {L : Nat} {xs : Nat → Int32} : m_tg (p_P L xs) 225 76 = k_225_76 := (show m_tgl s_225 76 = m_fl (s_225.drop 4) from rfl).trans fl_225_4
theorem tg_225_82 {L : Nat} {xs : Nat → Int32} : m_tg (p_P L xs) 225 82 = k_225_82 := (show m_tgl s_225 82 = m_fl (s_225.drop 5) from rfl).trans fl_225_5
noncomputable def k_226_82 : List Instr := .return_ :: []
theorem fl_226_5 : m_fl (s_226.drop 5) = k_226_82 := rfl
noncomputable def k_226_76 : List Instr := .iinc 3 1 :: .goto 2 :: k_226_82
theorem fl_226_4 : m_fl (s_226.drop 4) = k_226_76 := (show m_fl (s_226.drop 4) = [.iinc 3 1, .goto 2] ++ m_fl (s_226.drop 5) from rfl).trans (by rw [fl_226_5]; rfl)
noncomputable def k_226_43 : List Instr := .istore 4 :: .iload 4 :: .ifCond .eq 76 :: .aload 1 :: .iconst 0 :: .iaload :: .aload 1 :: .iload 3 :: .iconst 5 :: .invokestatic 211 :: .isub :: .aload 1 :: .iload 3 :: .iconst 4 :: .invokestatic 211 :: .if_icmp .lt 76 :: .aload 0 :: .aload 1 :: .iload 3 :: .iconst 1 :: .invokevirtual 217 :: k_226_76
theorem fl_226_3 : m_fl (s_226.drop 3) = k_226_43 := (show m_fl (s_226.drop 3) = [.istore 4, .iload 4, .ifCond .eq 76, .aload 1, .iconst 0, .iaload, .aload 1, .iload 3, .iconst 5, .invokestatic 211, .isub, .aload 1, .iload 3, .iconst 4, .invokestatic 211, .if_icmp .lt 76, .aload 0, .aload 1, .iload 3, .iconst 1, .invokevirtual 217] ++ m_fl (s_226.drop 4) from rfl).trans (by rw [fl_226_4]; rfl)
noncomputable def k_226_42 : List Instr := .iconst 0 :: k_226_43
theorem fl_226_2 : m_fl (s_226.drop 2) = k_226_42 := (show m_fl (s_226.drop 2) = [.iconst 0] ++ m_fl (s_226.drop 3) from rfl).trans (by rw [fl_226_3]; rfl)
noncomputable def k_226_2 : List Instr := .iload 3 :: .aload 1 :: .iconst 1 :: .iaload :: .if_icmp .ge 82 :: .aload 1 :: .iload 3 :: .iconst 0 :: .invokestatic 211 :: .iload 2 :: .if_icmp .ne 42 :: .aload 1 :: .iload 3 :: .iconst 6 :: .invokestatic 211 :: .ifCond .ne 42 :: .aload 1 :: .iload 3 :: .iconst 4 :: .invokestatic 211 :: .ifCond .le 42 :: .iconst 1 :: .goto 43 :: k_226_42
theorem fl_226_1 : m_fl (s_226.drop 1) = k_226_2 := (show m_fl (s_226.drop 1) = [.iload 3, .aload 1, .iconst 1, .iaload, .if_icmp .ge 82, .aload 1, .iload 3, .iconst 0, .invokestatic 211, .iload 2, .if_icmp .ne 42, .aload 1, .iload 3, .iconst 6, .invokestatic 211, .ifCond .ne 42, .aload 1, .iload 3, .iconst 4, .invokestatic 211, .ifCond .le 42, .iconst 1, .goto 43] ++ m_fl (s_226.drop 2) from rfl).trans (by rw [fl_226_2]; rfl)
noncomputable def k_226_0 : List Instr := .iconst 0 :: .istore 3 :: k_226_2
theorem fl_226_0 : m_fl (s_226.drop 0) = k_226_0 := (show m_fl (s_226.drop 0) = [.iconst 0, .istore 3] ++ m_fl (s_226.drop 1) from rfl).trans (by rw [fl_226_1]; rfl)
theorem tn_226_0 {L : Nat} {xs : Nat → Int32} : m_tg (p_P L xs) 226 0 = k_226_0 := (show m_tgl s_226 0 = m_fl (s_226.drop 0) from rfl).trans fl_226_0
theorem tg_226_2 {L : Nat} {xs : Nat → Int32} : m_tg (p_P L xs) 226 2 = k_226_2 := (show m_tgl s_226 2 = m_fl (s_226.drop 1) from rfl).trans fl_226_1
theorem tg_226_42 {L : Nat} {xs : Nat → Int32} : m_tg (p_P L xs) 226 42 = k_226_42 := (show m_tgl s_226 42 = m_fl (s_226.drop 2) from rfl).trans fl_226_2
theorem tg_226_43 {L : Nat} {xs : Nat → Int32} : m_tg (p_P L xs) 226 43 = k_226_43 := (show m_tgl s_226 43 = m_fl (s_226.drop 3) from rfl).trans fl_226_3
theorem tg_226_76 {L : Nat} {xs : Nat → Int32} : m_tg (p_P L xs) 226 76 = k_226_76 := (show m_tgl s_226 76 = m_fl (s_226.drop 4) from rfl).trans fl_226_4
theorem tg_226_82 {L : Nat} {xs : Nat → Int32} : m_tg (p_P L xs) 226 82 = k_226_82 := (show m_tgl s_226 82 = m_fl (s_226.drop 5) from rfl).trans fl_226_5
noncomputable def k_227_13 : List Instr := .aload 1 :: .iconst 28 :: .iload 2 :: .iadd :: .iconst (-1) :: .iastore :: .aload 1 :: .iconst 32 :: .iload 2 :: .iadd :: .iload 3 :: .iastore :: .aload 1 :: .iconst 36 :: .iload 2 :: .iadd :: .aload 0 :: .getfield 771 :: .aload 1 :: .iload 3 :: .iconst 1 :: .invokestatic 211 :: .iaload :: .iastore :: .aload 1 :: .iload 3 :: .iconst 6 :: .iconst 1 :: .invokestatic 212 :: .aload 0 :: .aload 1 :: .iconst 1 :: .iload 2 :: .iload 3 :: .invokevirtual 216 :: .return_ :: []
theorem fl_227_1 : m_fl (s_227.drop 1) = k_227_13 := rfl
noncomputable def k_227_0 : List Instr := .aload 0 :: .aload 1 :: .iload 2 :: .invokevirtual 225 :: .istore 3 :: .iload 3 :: .iconst (-1) :: .if_icmp .ne 13 :: .return_ :: k_227_13
theorem fl_227_0 : m_fl (s_227.drop 0) = k_227_0 := (show m_fl (s_227.drop 0) = [.aload 0, .aload 1, .iload 2, .invokevirtual 225, .istore 3, .iload 3, .iconst (-1), .if_icmp .ne 13, .return_] ++ m_fl (s_227.drop 1) from rfl).trans (by rw [fl_227_1]; rfl)
theorem tn_227_0 {L : Nat} {xs : Nat → Int32} : m_tg (p_P L xs) 227 0 = k_227_0 := (show m_tgl s_227 0 = m_fl (s_227.drop 0) from rfl).trans fl_227_0
theorem tg_227_13 {L : Nat} {xs : Nat → Int32} : m_tg (p_P L xs) 227 13 = k_227_13 := (show m_tgl s_227 13 = m_fl (s_227.drop 1) from rfl).trans fl_227_1
noncomputable def k_228_23 : List Instr := .aload 0 :: .iload 1 :: .iconst 12 :: .aload 0 :: .iload 1 :: .iconst 12 :: .invokestatic 211 :: .iconst 1 :: .isub :: .invokestatic 212 :: .iconst 1 :: .ret 0 :: []
theorem fl_228_2 : m_fl (s_228.drop 2) = k_228_23 := rfl
noncomputable def k_228_21 : List Instr := .iconst 0 :: .ret 0 :: k_228_23
theorem fl_228_1 : m_fl (s_228.drop 1) = k_228_21 := (show m_fl (s_228.drop 1) = [.iconst 0, .ret 0] ++ m_fl (s_228.drop 2) from rfl).trans (by rw [fl_228_2]; rfl)
noncomputable def k_228_0 : List Instr := .aload 0 :: .iload 1 :: .iconst 11 :: .invokestatic 211 :: .iload 2 :: .if_icmp .ne 21 :: .aload 0 :: .iload 1 :: .iconst 12 :: .invokestatic 211 :: .ifCond .ne 23 :: k_228_21
theorem fl_228_0 : m_fl (s_228.drop 0) = k_228_0 := (show m_fl (s_228.drop 0) = [.aload 0, .iload 1, .iconst 11, .invokestatic 211, .iload 2, .if_icmp .ne 21, .aload 0, .iload 1, .iconst 12, .invokestatic 211, .ifCond .ne 23] ++ m_fl (s_228.drop 1) from rfl).trans (by rw [fl_228_1]; rfl)
theorem tn_228_0 {L : Nat} {xs : Nat → Int32} : m_tg (p_P L xs) 228 0 = k_228_0 := (show m_tgl s_228 0 = m_fl (s_228.drop 0) from rfl).trans fl_228_0
theorem tg_228_21 {L : Nat} {xs : Nat → Int32} : m_tg (p_P L xs) 228 21 = k_228_21 := (show m_tgl s_228 21 = m_fl (s_228.drop 1) from rfl).trans fl_228_1
theorem tg_228_23 {L : Nat} {xs : Nat → Int32} : m_tg (p_P L xs) 228 23 = k_228_23 := (show m_tgl s_228 23 = m_fl (s_228.drop 2) from rfl).trans fl_228_2
noncomputable def k_229_130 : List Instr := .return_ :: []
theorem fl_229_4 : m_fl (s_229.drop 4) = k_229_130 := rfl
noncomputable def k_229_122 : List Instr := .aload 0 :: .aload 1 :: .iload 3 :: .iload 5 :: .invokevirtual 219 :: k_229_130
theorem fl_229_3 : m_fl (s_229.drop 3) = k_229_122 := (show m_fl (s_229.drop 3) = [.aload 0, .aload 1, .iload 3, .iload 5, .invokevirtual 219] ++ m_fl (s_229.drop 4) from rfl).trans (by rw [fl_229_4]; rfl)
noncomputable def k_229_43 : List Instr := .aload 1 :: .iload 3 :: .iconst 1 :: .invokestatic 211 :: .istore 4 :: .aload 0 :: .aload 1 :: .iload 3 :: .invokevirtual 214 :: .istore 5 :: .aload 0 :: .aload 1 :: .aload 0 :: .getfield 773 :: .iload 4 :: .iaload :: .aload 0 :: .getfield 774 :: .iload 4 :: .iaload :: .iload 2 :: .aload 1 :: .iload 3 :: .iconst 2 :: .invokestatic 211 :: .iload 5 :: .invokevirtual 210 :: .pop :: .aload 1 :: .iload 3 :: .iconst 9 :: .aload 1 :: .iload 3 :: .iconst 9 :: .invokestatic 211 :: .iconst 1 :: .iadd :: .invokestatic 212 :: .aload 1 :: .iload 3 :: .iconst 2 :: .invokestatic 228 :: .ifCond .eq 122 :: .aload 0 :: .aload 1 :: .iload 2 :: .invokevirtual 222 :: .goto 130 :: k_229_122
theorem fl_229_2 : m_fl (s_229.drop 2) = k_229_43 := (show m_fl (s_229.drop 2) = [.aload 1, .iload 3, .iconst 1, .invokestatic 211, .istore 4, .aload 0, .aload 1, .iload 3, .invokevirtual 214, .istore 5, .aload 0, .aload 1, .aload 0, .getfield 773, .iload 4, .iaload, .aload 0, .getfield 774, .iload 4, .iaload, .iload 2, .aload 1, .iload 3, .iconst 2, .invokestatic 211, .iload 5, .invokevirtual 210, .pop, .aload 1, .iload 3, .iconst 9, .aload 1, .iload 3, .iconst 9, .invokestatic 211, .iconst 1, .iadd, .invokestatic 212, .aload 1, .iload 3, .iconst 2, .invokestatic 228, .ifCond .eq 122, .aload 0, .aload 1, .iload 2, .invokevirtual 222, .goto 130] ++ m_fl (s_229.drop 3) from rfl).trans (by rw [fl_229_3]; rfl)
noncomputable def k_229_27 : List Instr := .aload 1 :: .iload 3 :: .iconst 1 :: .invokestatic 228 :: .ifCond .eq 43 :: .aload 0 :: .aload 1 :: .iload 2 :: .invokevirtual 222 :: .return_ :: k_229_43
theorem fl_229_1 : m_fl (s_229.drop 1) = k_229_27 := (show m_fl (s_229.drop 1) = [.aload 1, .iload 3, .iconst 1, .invokestatic 228, .ifCond .eq 43, .aload 0, .aload 1, .iload 2, .invokevirtual 222, .return_] ++ m_fl (s_229.drop 2) from rfl).trans (by rw [fl_229_2]; rfl)
noncomputable def k_229_0 : List Instr := .aload 1 :: .iconst 32 :: .iload 2 :: .iadd :: .iaload :: .istore 3 :: .aload 1 :: .iconst 36 :: .iload 2 :: .iadd :: .dup2 :: .iaload :: .iconst 1 :: .isub :: .iastore :: .aload 1 :: .iconst 36 :: .iload 2 :: .iadd :: .iaload :: .ifCond .le 27 :: .return_ :: k_229_27
theorem fl_229_0 : m_fl (s_229.drop 0) = k_229_0 := (show m_fl (s_229.drop 0) = [.aload 1, .iconst 32, .iload 2, .iadd, .iaload, .istore 3, .aload 1, .iconst 36, .iload 2, .iadd, .dup2, .iaload, .iconst 1, .isub, .iastore, .aload 1, .iconst 36, .iload 2, .iadd, .iaload, .ifCond .le 27, .return_] ++ m_fl (s_229.drop 1) from rfl).trans (by rw [fl_229_1]; rfl)
theorem tn_229_0 {L : Nat} {xs : Nat → Int32} : m_tg (p_P L xs) 229 0 = k_229_0 := (show m_tgl s_229 0 = m_fl (s_229.drop 0) from rfl).trans fl_229_0
theorem tg_229_27 {L : Nat} {xs : Nat → Int32} : m_tg (p_P L xs) 229 27 = k_229_27 := (show m_tgl s_229 27 = m_fl (s_229.drop 1) from rfl).trans fl_229_1
theorem tg_229_43 {L : Nat} {xs : Nat → Int32} : m_tg (p_P L xs) 229 43 = k_229_43 := (show m_tgl s_229 43 = m_fl (s_229.drop 2) from rfl).trans fl_229_2
theorem tg_229_122 {L : Nat} {xs : Nat → Int32} : m_tg (p_P L xs) 229 122 = k_229_122 := (show m_tgl s_229 122 = m_fl (s_229.drop 3) from rfl).trans fl_229_3
theorem tg_229_130 {L : Nat} {xs : Nat → Int32} : m_tg (p_P L xs) 229 130 = k_229_130 := (show m_tgl s_229 130 = m_fl (s_229.drop 4) from rfl).trans fl_229_4
noncomputable def k_230_132 : List Instr := .aload 1 :: .iconst 40 :: .iload 2 :: .iadd :: .dup2 :: .iaload :: .iconst 1 :: .iadd :: .iastore :: .return_ :: []
theorem fl_230_6 : m_fl (s_230.drop 6) = k_230_132 := rfl
noncomputable def k_230_104 : List Instr := .aload 1 :: .iconst 0 :: .iaload :: .iconst 1 :: .iadd :: .aload 1 :: .iconst 24 :: .iload 2 :: .iadd :: .iaload :: .isub :: .aload 0 :: .getfield 769 :: .iconst 4 :: .iaload :: .if_icmp .lt 132 :: .aload 1 :: .iconst 20 :: .iload 2 :: .iadd :: .iconst 0 :: .iastore :: k_230_132
theorem fl_230_5 : m_fl (s_230.drop 5) = k_230_104 := (show m_fl (s_230.drop 5) = [.aload 1, .iconst 0, .iaload, .iconst 1, .iadd, .aload 1, .iconst 24, .iload 2, .iadd, .iaload, .isub, .aload 0, .getfield 769, .iconst 4, .iaload, .if_icmp .lt 132, .aload 1, .iconst 20, .iload 2, .iadd, .iconst 0, .iastore] ++ m_fl (s_230.drop 6) from rfl).trans (by rw [fl_230_6]; rfl)
noncomputable def k_230_94 : List Instr := .aload 1 :: .iconst 12 :: .iload 2 :: .iadd :: .iaload :: .ifCond .eq 104 :: .return_ :: k_230_104
theorem fl_230_4 : m_fl (s_230.drop 4) = k_230_94 := (show m_fl (s_230.drop 4) = [.aload 1, .iconst 12, .iload 2, .iadd, .iaload, .ifCond .eq 104, .return_] ++ m_fl (s_230.drop 5) from rfl).trans (by rw [fl_230_5]; rfl)
noncomputable def k_230_69 : List Instr := .aload 1 :: .iconst 12 :: .iload 2 :: .iadd :: .iaload :: .ifCond .ne 94 :: .aload 1 :: .iconst 32 :: .iload 2 :: .iadd :: .iaload :: .iconst (-1) :: .if_icmp .eq 94 :: .aload 0 :: .aload 1 :: .iload 2 :: .invokevirtual 229 :: k_230_94
theorem fl_230_3 : m_fl (s_230.drop 3) = k_230_69 := (show m_fl (s_230.drop 3) = [.aload 1, .iconst 12, .iload 2, .iadd, .iaload, .ifCond .ne 94, .aload 1, .iconst 32, .iload 2, .iadd, .iaload, .iconst (-1), .if_icmp .eq 94, .aload 0, .aload 1, .iload 2, .invokevirtual 229] ++ m_fl (s_230.drop 4) from rfl).trans (by rw [fl_230_4]; rfl)
noncomputable def k_230_44 : List Instr := .aload 1 :: .iconst 12 :: .iload 2 :: .iadd :: .iaload :: .ifCond .ne 69 :: .aload 1 :: .iconst 32 :: .iload 2 :: .iadd :: .iaload :: .iconst (-1) :: .if_icmp .ne 69 :: .aload 0 :: .aload 1 :: .iload 2 :: .invokevirtual 227 :: k_230_69
theorem fl_230_2 : m_fl (s_230.drop 2) = k_230_44 := (show m_fl (s_230.drop 2) = [.aload 1, .iconst 12, .iload 2, .iadd, .iaload, .ifCond .ne 69, .aload 1, .iconst 32, .iload 2, .iadd, .iaload, .iconst (-1), .if_icmp .ne 69, .aload 0, .aload 1, .iload 2, .invokevirtual 227] ++ m_fl (s_230.drop 3) from rfl).trans (by rw [fl_230_3]; rfl)
noncomputable def k_230_28 : List Instr := .aload 1 :: .iconst 12 :: .iload 2 :: .iadd :: .iaload :: .iconst 2 :: .if_icmp .eq 44 :: .aload 0 :: .aload 1 :: .iload 2 :: .invokevirtual 226 :: k_230_44
theorem fl_230_1 : m_fl (s_230.drop 1) = k_230_28 := (show m_fl (s_230.drop 1) = [.aload 1, .iconst 12, .iload 2, .iadd, .iaload, .iconst 2, .if_icmp .eq 44, .aload 0, .aload 1, .iload 2, .invokevirtual 226] ++ m_fl (s_230.drop 2) from rfl).trans (by rw [fl_230_2]; rfl)
noncomputable def k_230_0 : List Instr := .aload 1 :: .iconst 12 :: .iload 2 :: .iadd :: .iaload :: .iconst 1 :: .if_icmp .ne 28 :: .aload 1 :: .iconst 0 :: .iaload :: .aload 1 :: .iconst 16 :: .iload 2 :: .iadd :: .iaload :: .if_icmp .lt 28 :: .aload 0 :: .aload 1 :: .iload 2 :: .invokevirtual 224 :: k_230_28
theorem fl_230_0 : m_fl (s_230.drop 0) = k_230_0 := (show m_fl (s_230.drop 0) = [.aload 1, .iconst 12, .iload 2, .iadd, .iaload, .iconst 1, .if_icmp .ne 28, .aload 1, .iconst 0, .iaload, .aload 1, .iconst 16, .iload 2, .iadd, .iaload, .if_icmp .lt 28, .aload 0, .aload 1, .iload 2, .invokevirtual 224] ++ m_fl (s_230.drop 1) from rfl).trans (by rw [fl_230_1]; rfl)
theorem tn_230_0 {L : Nat} {xs : Nat → Int32} : m_tg (p_P L xs) 230 0 = k_230_0 := (show m_tgl s_230 0 = m_fl (s_230.drop 0) from rfl).trans fl_230_0
theorem tg_230_28 {L : Nat} {xs : Nat → Int32} : m_tg (p_P L xs) 230 28 = k_230_28 := (show m_tgl s_230 28 = m_fl (s_230.drop 1) from rfl).trans fl_230_1
theorem tg_230_44 {L : Nat} {xs : Nat → Int32} : m_tg (p_P L xs) 230 44 = k_230_44 := (show m_tgl s_230 44 = m_fl (s_230.drop 2) from rfl).trans fl_230_2
theorem tg_230_69 {L : Nat} {xs : Nat → Int32} : m_tg (p_P L xs) 230 69 = k_230_69 := (show m_tgl s_230 69 = m_fl (s_230.drop 3) from rfl).trans fl_230_3
theorem tg_230_94 {L : Nat} {xs : Nat → Int32} : m_tg (p_P L xs) 230 94 = k_230_94 := (show m_tgl s_230 94 = m_fl (s_230.drop 4) from rfl).trans fl_230_4
theorem tg_230_104 {L : Nat} {xs : Nat → Int32} : m_tg (p_P L xs) 230 104 = k_230_104 := (show m_tgl s_230 104 = m_fl (s_230.drop 5) from rfl).trans fl_230_5
theorem tg_230_132 {L : Nat} {xs : Nat → Int32} : m_tg (p_P L xs) 230 132 = k_230_132 := (show m_tgl s_230 132 = m_fl (s_230.drop 6) from rfl).trans fl_230_6
noncomputable def k_231_24 : List Instr := .aload 1 :: .iconst 0 :: .dup2 :: .iaload :: .iconst 1 :: .iadd :: .iastore :: .return_ :: []
theorem fl_231_2 : m_fl (s_231.drop 2) = k_231_24 := rfl
noncomputable def k_231_2 : List Instr := .iload 2 :: .aload 0 :: .getfield 769 :: .iconst 0 :: .iaload :: .if_icmp .ge 24 :: .aload 0 :: .aload 1 :: .iload 2 :: .invokevirtual 230 :: .iinc 2 1 :: .goto 2 :: k_231_24
theorem fl_231_1 : m_fl (s_231.drop 1) = k_231_2 := (show m_fl (s_231.drop 1) = [.iload 2, .aload 0, .getfield 769, .iconst 0, .iaload, .if_icmp .ge 24, .aload 0, .aload 1, .iload 2, .invokevirtual 230, .iinc 2 1, .goto 2] ++ m_fl (s_231.drop 2) from rfl).trans (by rw [fl_231_2]; rfl)
noncomputable def k_231_0 : List Instr := .iconst 0 :: .istore 2 :: k_231_2
theorem fl_231_0 : m_fl (s_231.drop 0) = k_231_0 := (show m_fl (s_231.drop 0) = [.iconst 0, .istore 2] ++ m_fl (s_231.drop 1) from rfl).trans (by rw [fl_231_1]; rfl)
theorem tn_231_0 {L : Nat} {xs : Nat → Int32} : m_tg (p_P L xs) 231 0 = k_231_0 := (show m_tgl s_231 0 = m_fl (s_231.drop 0) from rfl).trans fl_231_0
theorem tg_231_2 {L : Nat} {xs : Nat → Int32} : m_tg (p_P L xs) 231 2 = k_231_2 := (show m_tgl s_231 2 = m_fl (s_231.drop 1) from rfl).trans fl_231_1
theorem tg_231_24 {L : Nat} {xs : Nat → Int32} : m_tg (p_P L xs) 231 24 = k_231_24 := (show m_tgl s_231 24 = m_fl (s_231.drop 2) from rfl).trans fl_231_2
noncomputable def k_232_0 : List Instr := .iload 1 :: .i2l :: .ldc2_w 0 :: .aload 0 :: .getfield 769 :: .iconst 0 :: .iaload :: .iconst 1 :: .isub :: .i2l :: .invokestatic 153 :: .ret 0 :: []
theorem fl_232_0 : m_fl (s_232.drop 0) = k_232_0 := rfl
theorem tn_232_0 {L : Nat} {xs : Nat → Int32} : m_tg (p_P L xs) 232 0 = k_232_0 := (show m_tgl s_232 0 = m_fl (s_232.drop 0) from rfl).trans fl_232_0
noncomputable def k_233_0 : List Instr := .iload 1 :: .i2l :: .ldc2_w 0 :: .aload 0 :: .getfield 769 :: .iconst 1 :: .iaload :: .iconst 1 :: .isub :: .i2l :: .invokestatic 153 :: .ret 0 :: []
theorem fl_233_0 : m_fl (s_233.drop 0) = k_233_0 := rfl
theorem tn_233_0 {L : Nat} {xs : Nat → Int32} : m_tg (p_P L xs) 233 0 = k_233_0 := (show m_tgl s_233 0 = m_fl (s_233.drop 0) from rfl).trans fl_233_0
noncomputable def k_234_0 : List Instr := .iload 1 :: .i2l :: .ldc2_w 0 :: .aload 0 :: .getfield 780 :: .iconst 1 :: .iaload :: .iconst 1 :: .isub :: .i2l :: .invokestatic 153 :: .ret 0 :: []
theorem fl_234_0 : m_fl (s_234.drop 0) = k_234_0 := rfl
theorem tn_234_0 {L : Nat} {xs : Nat → Int32} : m_tg (p_P L xs) 234 0 = k_234_0 := (show m_tgl s_234 0 = m_fl (s_234.drop 0) from rfl).trans fl_234_0
noncomputable def k_235_0 : List Instr := .aload 0 :: .iconst 0 :: .putfield 768 :: .aload 0 :: .getfield 769 :: .iconst 0 :: .iaload :: .ireturn :: []
theorem fl_235_0 : m_fl (s_235.drop 0) = k_235_0 := rfl
theorem tn_235_0 {L : Nat} {xs : Nat → Int32} : m_tg (p_P L xs) 235 0 = k_235_0 := (show m_tgl s_235 0 = m_fl (s_235.drop 0) from rfl).trans fl_235_0
noncomputable def k_236_0 : List Instr := .aload 0 :: .iconst 0 :: .putfield 768 :: .aload 0 :: .getfield 769 :: .iconst 1 :: .iaload :: .ireturn :: []
theorem fl_236_0 : m_fl (s_236.drop 0) = k_236_0 := rfl
theorem tn_236_0 {L : Nat} {xs : Nat → Int32} : m_tg (p_P L xs) 236 0 = k_236_0 := (show m_tgl s_236 0 = m_fl (s_236.drop 0) from rfl).trans fl_236_0
noncomputable def k_237_0 : List Instr := .aload 0 :: .iconst 0 :: .putfield 768 :: .aload 0 :: .getfield 780 :: .iconst 1 :: .iaload :: .ireturn :: []
theorem fl_237_0 : m_fl (s_237.drop 0) = k_237_0 := rfl
theorem tn_237_0 {L : Nat} {xs : Nat → Int32} : m_tg (p_P L xs) 237 0 = k_237_0 := (show m_tgl s_237 0 = m_fl (s_237.drop 0) from rfl).trans fl_237_0
noncomputable def k_238_0 : List Instr := .aload 0 :: .iconst 0 :: .putfield 768 :: .aload 0 :: .getfield 780 :: .iconst 0 :: .iaload :: .ireturn :: []
theorem fl_238_0 : m_fl (s_238.drop 0) = k_238_0 := rfl
theorem tn_238_0 {L : Nat} {xs : Nat → Int32} : m_tg (p_P L xs) 238 0 = k_238_0 := (show m_tgl s_238 0 = m_fl (s_238.drop 0) from rfl).trans fl_238_0
noncomputable def k_239_20 : List Instr := .aload 0 :: .getfield 770 :: .iload 1 :: .iaload :: .ireturn :: []
theorem fl_239_1 : m_fl (s_239.drop 1) = k_239_20 := rfl
noncomputable def k_239_0 : List Instr := .aload 0 :: .iconst 0 :: .putfield 768 :: .aload 0 :: .aload 0 :: .iload 1 :: .invokevirtual 233 :: .iconst 1 :: .invokevirtual 154 :: .ifCond .eq 20 :: .iconst 0 :: .ireturn :: k_239_20
theorem fl_239_0 : m_fl (s_239.drop 0) = k_239_0 := (show m_fl (s_239.drop 0) = [.aload 0, .iconst 0, .putfield 768, .aload 0, .aload 0, .iload 1, .invokevirtual 233, .iconst 1, .invokevirtual 154, .ifCond .eq 20, .iconst 0, .ireturn] ++ m_fl (s_239.drop 1) from rfl).trans (by rw [fl_239_1]; rfl)
theorem tn_239_0 {L : Nat} {xs : Nat → Int32} : m_tg (p_P L xs) 239 0 = k_239_0 := (show m_tgl s_239 0 = m_fl (s_239.drop 0) from rfl).trans fl_239_0
theorem tg_239_20 {L : Nat} {xs : Nat → Int32} : m_tg (p_P L xs) 239 20 = k_239_20 := (show m_tgl s_239 20 = m_fl (s_239.drop 1) from rfl).trans fl_239_1
noncomputable def k_240_20 : List Instr := .aload 0 :: .getfield 771 :: .iload 1 :: .iaload :: .ireturn :: []
theorem fl_240_1 : m_fl (s_240.drop 1) = k_240_20 := rfl
noncomputable def k_240_0 : List Instr := .aload 0 :: .iconst 0 :: .putfield 768 :: .aload 0 :: .aload 0 :: .iload 1 :: .invokevirtual 233 :: .iconst 1 :: .invokevirtual 154 :: .ifCond .eq 20 :: .iconst 0 :: .ireturn :: k_240_20
theorem fl_240_0 : m_fl (s_240.drop 0) = k_240_0 := (show m_fl (s_240.drop 0) = [.aload 0, .iconst 0, .putfield 768, .aload 0, .aload 0, .iload 1, .invokevirtual 233, .iconst 1, .invokevirtual 154, .ifCond .eq 20, .iconst 0, .ireturn] ++ m_fl (s_240.drop 1) from rfl).trans (by rw [fl_240_1]; rfl)
theorem tn_240_0 {L : Nat} {xs : Nat → Int32} : m_tg (p_P L xs) 240 0 = k_240_0 := (show m_tgl s_240 0 = m_fl (s_240.drop 0) from rfl).trans fl_240_0
theorem tg_240_20 {L : Nat} {xs : Nat → Int32} : m_tg (p_P L xs) 240 20 = k_240_20 := (show m_tgl s_240 20 = m_fl (s_240.drop 1) from rfl).trans fl_240_1
noncomputable def k_241_0 : List Instr := .aload 0 :: .iconst 0 :: .putfield 768 :: .aload 0 :: .aload 0 :: .iload 1 :: .invokevirtual 232 :: .iconst 1 :: .invokevirtual 154 :: .ret 0 :: []
theorem fl_241_0 : m_fl (s_241.drop 0) = k_241_0 := rfl
theorem tn_241_0 {L : Nat} {xs : Nat → Int32} : m_tg (p_P L xs) 241 0 = k_241_0 := (show m_tgl s_241 0 = m_fl (s_241.drop 0) from rfl).trans fl_241_0
noncomputable def k_242_21 : List Instr := .ireturn :: []
theorem fl_242_2 : m_fl (s_242.drop 2) = k_242_21 := rfl
noncomputable def k_242_12 : List Instr := .aload 0 :: .getfield 780 :: .iconst 12 :: .iload 1 :: .iadd :: .iaload :: k_242_21
theorem fl_242_1 : m_fl (s_242.drop 1) = k_242_12 := (show m_fl (s_242.drop 1) = [.aload 0, .getfield 780, .iconst 12, .iload 1, .iadd, .iaload] ++ m_fl (s_242.drop 2) from rfl).trans (by rw [fl_242_2]; rfl)
noncomputable def k_242_0 : List Instr := .aload 0 :: .iload 1 :: .invokevirtual 241 :: .ifCond .eq 12 :: .iconst 0 :: .goto 21 :: k_242_12
theorem fl_242_0 : m_fl (s_242.drop 0) = k_242_0 := (show m_fl (s_242.drop 0) = [.aload 0, .iload 1, .invokevirtual 241, .ifCond .eq 12, .iconst 0, .goto 21] ++ m_fl (s_242.drop 1) from rfl).trans (by rw [fl_242_1]; rfl)
theorem tn_242_0 {L : Nat} {xs : Nat → Int32} : m_tg (p_P L xs) 242 0 = k_242_0 := (show m_tgl s_242 0 = m_fl (s_242.drop 0) from rfl).trans fl_242_0
theorem tg_242_12 {L : Nat} {xs : Nat → Int32} : m_tg (p_P L xs) 242 12 = k_242_12 := (show m_tgl s_242 12 = m_fl (s_242.drop 1) from rfl).trans fl_242_1
theorem tg_242_21 {L : Nat} {xs : Nat → Int32} : m_tg (p_P L xs) 242 21 = k_242_21 := (show m_tgl s_242 21 = m_fl (s_242.drop 2) from rfl).trans fl_242_2
noncomputable def k_243_36 : List Instr := .ireturn :: []
theorem fl_243_3 : m_fl (s_243.drop 3) = k_243_36 := rfl
noncomputable def k_243_35 : List Instr := .iconst (-1) :: k_243_36
theorem fl_243_2 : m_fl (s_243.drop 2) = k_243_35 := (show m_fl (s_243.drop 2) = [.iconst (-1)] ++ m_fl (s_243.drop 3) from rfl).trans (by rw [fl_243_3]; rfl)
noncomputable def k_243_10 : List Instr := .aload 0 :: .getfield 780 :: .iconst 12 :: .iload 1 :: .iadd :: .iaload :: .iconst 1 :: .if_icmp .ne 35 :: .aload 0 :: .getfield 780 :: .iconst 16 :: .iload 1 :: .iadd :: .iaload :: .goto 36 :: k_243_35
theorem fl_243_1 : m_fl (s_243.drop 1) = k_243_10 := (show m_fl (s_243.drop 1) = [.aload 0, .getfield 780, .iconst 12, .iload 1, .iadd, .iaload, .iconst 1, .if_icmp .ne 35, .aload 0, .getfield 780, .iconst 16, .iload 1, .iadd, .iaload, .goto 36] ++ m_fl (s_243.drop 2) from rfl).trans (by rw [fl_243_2]; rfl)
noncomputable def k_243_0 : List Instr := .aload 0 :: .iload 1 :: .invokevirtual 241 :: .ifCond .eq 10 :: .iconst 0 :: .ireturn :: k_243_10
theorem fl_243_0 : m_fl (s_243.drop 0) = k_243_0 := (show m_fl (s_243.drop 0) = [.aload 0, .iload 1, .invokevirtual 241, .ifCond .eq 10, .iconst 0, .ireturn] ++ m_fl (s_243.drop 1) from rfl).trans (by rw [fl_243_1]; rfl)
theorem tn_243_0 {L : Nat} {xs : Nat → Int32} : m_tg (p_P L xs) 243 0 = k_243_0 := (show m_tgl s_243 0 = m_fl (s_243.drop 0) from rfl).trans fl_243_0
theorem tg_243_10 {L : Nat} {xs : Nat → Int32} : m_tg (p_P L xs) 243 10 = k_243_10 := (show m_tgl s_243 10 = m_fl (s_243.drop 1) from rfl).trans fl_243_1
theorem tg_243_35 {L : Nat} {xs : Nat → Int32} : m_tg (p_P L xs) 243 35 = k_243_35 := (show m_tgl s_243 35 = m_fl (s_243.drop 2) from rfl).trans fl_243_2
theorem tg_243_36 {L : Nat} {xs : Nat → Int32} : m_tg (p_P L xs) 243 36 = k_243_36 := (show m_tgl s_243 36 = m_fl (s_243.drop 3) from rfl).trans fl_243_3
noncomputable def k_244_21 : List Instr := .ireturn :: []
theorem fl_244_2 : m_fl (s_244.drop 2) = k_244_21 := rfl
noncomputable def k_244_12 : List Instr := .aload 0 :: .getfield 780 :: .iconst 20 :: .iload 1 :: .iadd :: .iaload :: k_244_21
theorem fl_244_1 : m_fl (s_244.drop 1) = k_244_12 := (show m_fl (s_244.drop 1) = [.aload 0, .getfield 780, .iconst 20, .iload 1, .iadd, .iaload] ++ m_fl (s_244.drop 2) from rfl).trans (by rw [fl_244_2]; rfl)
noncomputable def k_244_0 : List Instr := .aload 0 :: .iload 1 :: .invokevirtual 241 :: .ifCond .eq 12 :: .iconst 0 :: .goto 21 :: k_244_12
theorem fl_244_0 : m_fl (s_244.drop 0) = k_244_0 := (show m_fl (s_244.drop 0) = [.aload 0, .iload 1, .invokevirtual 241, .ifCond .eq 12, .iconst 0, .goto 21] ++ m_fl (s_244.drop 1) from rfl).trans (by rw [fl_244_1]; rfl)
theorem tn_244_0 {L : Nat} {xs : Nat → Int32} : m_tg (p_P L xs) 244 0 = k_244_0 := (show m_tgl s_244 0 = m_fl (s_244.drop 0) from rfl).trans fl_244_0
theorem tg_244_12 {L : Nat} {xs : Nat → Int32} : m_tg (p_P L xs) 244 12 = k_244_12 := (show m_tgl s_244 12 = m_fl (s_244.drop 1) from rfl).trans fl_244_1
theorem tg_244_21 {L : Nat} {xs : Nat → Int32} : m_tg (p_P L xs) 244 21 = k_244_21 := (show m_tgl s_244 21 = m_fl (s_244.drop 2) from rfl).trans fl_244_2
noncomputable def k_245_27 : List Instr := .aload 0 :: .getfield 780 :: .iconst 48 :: .iconst 8 :: .iload 1 :: .imul :: .iadd :: .iload 2 :: .iadd :: .iaload :: .ireturn :: []
theorem fl_245_2 : m_fl (s_245.drop 2) = k_245_27 := rfl
noncomputable def k_245_25 : List Instr := .iconst 0 :: .ireturn :: k_245_27
theorem fl_245_1 : m_fl (s_245.drop 1) = k_245_25 := (show m_fl (s_245.drop 1) = [.iconst 0, .ireturn] ++ m_fl (s_245.drop 2) from rfl).trans (by rw [fl_245_2]; rfl)
noncomputable def k_245_0 : List Instr := .aload 0 :: .iload 1 :: .invokevirtual 241 :: .ifCond .ne 25 :: .aload 0 :: .iload 2 :: .i2l :: .ldc2_w 0 :: .ldc2_w 7 :: .invokestatic 153 :: .iconst 1 :: .invokevirtual 154 :: .ifCond .eq 27 :: k_245_25
theorem fl_245_0 : m_fl (s_245.drop 0) = k_245_0 := (show m_fl (s_245.drop 0) = [.aload 0, .iload 1, .invokevirtual 241, .ifCond .ne 25, .aload 0, .iload 2, .i2l, .ldc2_w 0, .ldc2_w 7, .invokestatic 153, .iconst 1, .invokevirtual 154, .ifCond .eq 27] ++ m_fl (s_245.drop 1) from rfl).trans (by rw [fl_245_1]; rfl)
theorem tn_245_0 {L : Nat} {xs : Nat → Int32} : m_tg (p_P L xs) 245 0 = k_245_0 := (show m_tgl s_245 0 = m_fl (s_245.drop 0) from rfl).trans fl_245_0
theorem tg_245_25 {L : Nat} {xs : Nat → Int32} : m_tg (p_P L xs) 245 25 = k_245_25 := (show m_tgl s_245 25 = m_fl (s_245.drop 1) from rfl).trans fl_245_1
theorem tg_245_27 {L : Nat} {xs : Nat → Int32} : m_tg (p_P L xs) 245 27 = k_245_27 := (show m_tgl s_245 27 = m_fl (s_245.drop 2) from rfl).trans fl_245_2
noncomputable def k_246_27 : List Instr := .aload 0 :: .getfield 780 :: .iconst 80 :: .iconst 4 :: .iload 1 :: .imul :: .iadd :: .iload 2 :: .iadd :: .iaload :: .ireturn :: []
theorem fl_246_2 : m_fl (s_246.drop 2) = k_246_27 := rfl
noncomputable def k_246_25 : List Instr := .iconst 0 :: .ireturn :: k_246_27
theorem fl_246_1 : m_fl (s_246.drop 1) = k_246_25 := (show m_fl (s_246.drop 1) = [.iconst 0, .ireturn] ++ m_fl (s_246.drop 2) from rfl).trans (by rw [fl_246_2]; rfl)
noncomputable def k_246_0 : List Instr := .aload 0 :: .iload 1 :: .invokevirtual 241 :: .ifCond .ne 25 :: .aload 0 :: .iload 2 :: .i2l :: .ldc2_w 0 :: .ldc2_w 3 :: .invokestatic 153 :: .iconst 1 :: .invokevirtual 154 :: .ifCond .eq 27 :: k_246_25
theorem fl_246_0 : m_fl (s_246.drop 0) = k_246_0 := (show m_fl (s_246.drop 0) = [.aload 0, .iload 1, .invokevirtual 241, .ifCond .ne 25, .aload 0, .iload 2, .i2l, .ldc2_w 0, .ldc2_w 3, .invokestatic 153, .iconst 1, .invokevirtual 154, .ifCond .eq 27] ++ m_fl (s_246.drop 1) from rfl).trans (by rw [fl_246_1]; rfl)
theorem tn_246_0 {L : Nat} {xs : Nat → Int32} : m_tg (p_P L xs) 246 0 = k_246_0 := (show m_tgl s_246 0 = m_fl (s_246.drop 0) from rfl).trans fl_246_0
theorem tg_246_25 {L : Nat} {xs : Nat → Int32} : m_tg (p_P L xs) 246 25 = k_246_25 := (show m_tgl s_246 25 = m_fl (s_246.drop 1) from rfl).trans fl_246_1
theorem tg_246_27 {L : Nat} {xs : Nat → Int32} : m_tg (p_P L xs) 246 27 = k_246_27 := (show m_tgl s_246 27 = m_fl (s_246.drop 2) from rfl).trans fl_246_2
noncomputable def k_247_27 : List Instr := .aload 0 :: .getfield 780 :: .iconst 96 :: .iconst 4 :: .iload 1 :: .imul :: .iadd :: .iload 2 :: .iadd :: .iaload :: .ireturn :: []
theorem fl_247_2 : m_fl (s_247.drop 2) = k_247_27 := rfl
noncomputable def k_247_25 : List Instr := .iconst 0 :: .ireturn :: k_247_27
theorem fl_247_1 : m_fl (s_247.drop 1) = k_247_25 := (show m_fl (s_247.drop 1) = [.iconst 0, .ireturn] ++ m_fl (s_247.drop 2) from rfl).trans (by rw [fl_247_2]; rfl)
noncomputable def k_247_0 : List Instr := .aload 0 :: .iload 1 :: .invokevirtual 241 :: .ifCond .ne 25 :: .aload 0 :: .iload 2 :: .i2l :: .ldc2_w 0 :: .ldc2_w 3 :: .invokestatic 153 :: .iconst 1 :: .invokevirtual 154 :: .ifCond .eq 27 :: k_247_25
theorem fl_247_0 : m_fl (s_247.drop 0) = k_247_0 := (show m_fl (s_247.drop 0) = [.aload 0, .iload 1, .invokevirtual 241, .ifCond .ne 25, .aload 0, .iload 2, .i2l, .ldc2_w 0, .ldc2_w 3, .invokestatic 153, .iconst 1, .invokevirtual 154, .ifCond .eq 27] ++ m_fl (s_247.drop 1) from rfl).trans (by rw [fl_247_1]; rfl)
theorem tn_247_0 {L : Nat} {xs : Nat → Int32} : m_tg (p_P L xs) 247 0 = k_247_0 := (show m_tgl s_247 0 = m_fl (s_247.drop 0) from rfl).trans fl_247_0
theorem tg_247_25 {L : Nat} {xs : Nat → Int32} : m_tg (p_P L xs) 247 25 = k_247_25 := (show m_tgl s_247 25 = m_fl (s_247.drop 1) from rfl).trans fl_247_1
theorem tg_247_27 {L : Nat} {xs : Nat → Int32} : m_tg (p_P L xs) 247 27 = k_247_27 := (show m_tgl s_247 27 = m_fl (s_247.drop 2) from rfl).trans fl_247_2
noncomputable def k_248_21 : List Instr := .ireturn :: []
theorem fl_248_2 : m_fl (s_248.drop 2) = k_248_21 := rfl
noncomputable def k_248_12 : List Instr := .aload 0 :: .getfield 780 :: .iconst 44 :: .iload 1 :: .iadd :: .iaload :: k_248_21
theorem fl_248_1 : m_fl (s_248.drop 1) = k_248_12 := (show m_fl (s_248.drop 1) = [.aload 0, .getfield 780, .iconst 44, .iload 1, .iadd, .iaload] ++ m_fl (s_248.drop 2) from rfl).trans (by rw [fl_248_2]; rfl)
noncomputable def k_248_0 : List Instr := .aload 0 :: .iload 1 :: .invokevirtual 241 :: .ifCond .eq 12 :: .iconst 0 :: .goto 21 :: k_248_12
theorem fl_248_0 : m_fl (s_248.drop 0) = k_248_0 := (show m_fl (s_248.drop 0) = [.aload 0, .iload 1, .invokevirtual 241, .ifCond .eq 12, .iconst 0, .goto 21] ++ m_fl (s_248.drop 1) from rfl).trans (by rw [fl_248_1]; rfl)
theorem tn_248_0 {L : Nat} {xs : Nat → Int32} : m_tg (p_P L xs) 248 0 = k_248_0 := (show m_tgl s_248 0 = m_fl (s_248.drop 0) from rfl).trans fl_248_0
theorem tg_248_12 {L : Nat} {xs : Nat → Int32} : m_tg (p_P L xs) 248 12 = k_248_12 := (show m_tgl s_248 12 = m_fl (s_248.drop 1) from rfl).trans fl_248_1
theorem tg_248_21 {L : Nat} {xs : Nat → Int32} : m_tg (p_P L xs) 248 21 = k_248_21 := (show m_tgl s_248 21 = m_fl (s_248.drop 2) from rfl).trans fl_248_2
noncomputable def k_249_58 : List Instr := .ireturn :: []
theorem fl_249_6 : m_fl (s_249.drop 6) = k_249_58 := rfl
noncomputable def k_249_57 : List Instr := .iconst (-1) :: k_249_58
theorem fl_249_5 : m_fl (s_249.drop 5) = k_249_57 := (show m_fl (s_249.drop 5) = [.iconst (-1)] ++ m_fl (s_249.drop 6) from rfl).trans (by rw [fl_249_6]; rfl)
noncomputable def k_249_27 : List Instr := .iload 2 :: .aload 0 :: .getfield 780 :: .iconst 44 :: .iload 1 :: .iadd :: .iaload :: .if_icmp .ge 57 :: .aload 0 :: .getfield 780 :: .iconst 112 :: .iconst 20 :: .iload 1 :: .imul :: .iadd :: .iload 2 :: .iadd :: .iaload :: .goto 58 :: k_249_57
theorem fl_249_4 : m_fl (s_249.drop 4) = k_249_27 := (show m_fl (s_249.drop 4) = [.iload 2, .aload 0, .getfield 780, .iconst 44, .iload 1, .iadd, .iaload, .if_icmp .ge 57, .aload 0, .getfield 780, .iconst 112, .iconst 20, .iload 1, .imul, .iadd, .iload 2, .iadd, .iaload, .goto 58] ++ m_fl (s_249.drop 5) from rfl).trans (by rw [fl_249_5]; rfl)
noncomputable def k_249_25 : List Instr := .iconst 0 :: .ireturn :: k_249_27
theorem fl_249_3 : m_fl (s_249.drop 3) = k_249_25 := (show m_fl (s_249.drop 3) = [.iconst 0, .ireturn] ++ m_fl (s_249.drop 4) from rfl).trans (by rw [fl_249_4]; rfl)
noncomputable def k_249_18 : List Instr := .iconst 1 :: .invokevirtual 154 :: .ifCond .eq 27 :: k_249_25
theorem fl_249_2 : m_fl (s_249.drop 2) = k_249_18 := (show m_fl (s_249.drop 2) = [.iconst 1, .invokevirtual 154, .ifCond .eq 27] ++ m_fl (s_249.drop 3) from rfl).trans (by rw [fl_249_3]; rfl)
noncomputable def k_249_17 : List Instr := .iconst 0 :: k_249_18
theorem fl_249_1 : m_fl (s_249.drop 1) = k_249_17 := (show m_fl (s_249.drop 1) = [.iconst 0] ++ m_fl (s_249.drop 2) from rfl).trans (by rw [fl_249_2]; rfl)
noncomputable def k_249_0 : List Instr := .aload 0 :: .iload 1 :: .invokevirtual 241 :: .ifCond .ne 25 :: .aload 0 :: .iload 2 :: .ifCond .lt 17 :: .iconst 1 :: .goto 18 :: k_249_17
theorem fl_249_0 : m_fl (s_249.drop 0) = k_249_0 := (show m_fl (s_249.drop 0) = [.aload 0, .iload 1, .invokevirtual 241, .ifCond .ne 25, .aload 0, .iload 2, .ifCond .lt 17, .iconst 1, .goto 18] ++ m_fl (s_249.drop 1) from rfl).trans (by rw [fl_249_1]; rfl)
theorem tn_249_0 {L : Nat} {xs : Nat → Int32} : m_tg (p_P L xs) 249 0 = k_249_0 := (show m_tgl s_249 0 = m_fl (s_249.drop 0) from rfl).trans fl_249_0
theorem tg_249_17 {L : Nat} {xs : Nat → Int32} : m_tg (p_P L xs) 249 17 = k_249_17 := (show m_tgl s_249 17 = m_fl (s_249.drop 1) from rfl).trans fl_249_1
theorem tg_249_18 {L : Nat} {xs : Nat → Int32} : m_tg (p_P L xs) 249 18 = k_249_18 := (show m_tgl s_249 18 = m_fl (s_249.drop 2) from rfl).trans fl_249_2
theorem tg_249_25 {L : Nat} {xs : Nat → Int32} : m_tg (p_P L xs) 249 25 = k_249_25 := (show m_tgl s_249 25 = m_fl (s_249.drop 3) from rfl).trans fl_249_3
theorem tg_249_27 {L : Nat} {xs : Nat → Int32} : m_tg (p_P L xs) 249 27 = k_249_27 := (show m_tgl s_249 27 = m_fl (s_249.drop 4) from rfl).trans fl_249_4
theorem tg_249_57 {L : Nat} {xs : Nat → Int32} : m_tg (p_P L xs) 249 57 = k_249_57 := (show m_tgl s_249 57 = m_fl (s_249.drop 5) from rfl).trans fl_249_5
theorem tg_249_58 {L : Nat} {xs : Nat → Int32} : m_tg (p_P L xs) 249 58 = k_249_58 := (show m_tgl s_249 58 = m_fl (s_249.drop 6) from rfl).trans fl_249_6
noncomputable def k_250_21 : List Instr := .ireturn :: []
theorem fl_250_2 : m_fl (s_250.drop 2) = k_250_21 := rfl
noncomputable def k_250_12 : List Instr := .aload 0 :: .getfield 780 :: .iconst 32 :: .iload 1 :: .iadd :: .iaload :: k_250_21
theorem fl_250_1 : m_fl (s_250.drop 1) = k_250_12 := (show m_fl (s_250.drop 1) = [.aload 0, .getfield 780, .iconst 32, .iload 1, .iadd, .iaload] ++ m_fl (s_250.drop 2) from rfl).trans (by rw [fl_250_2]; rfl)
noncomputable def k_250_0 : List Instr := .aload 0 :: .iload 1 :: .invokevirtual 241 :: .ifCond .eq 12 :: .iconst 0 :: .goto 21 :: k_250_12
theorem fl_250_0 : m_fl (s_250.drop 0) = k_250_0 := (show m_fl (s_250.drop 0) = [.aload 0, .iload 1, .invokevirtual 241, .ifCond .eq 12, .iconst 0, .goto 21] ++ m_fl (s_250.drop 1) from rfl).trans (by rw [fl_250_1]; rfl)
theorem tn_250_0 {L : Nat} {xs : Nat → Int32} : m_tg (p_P L xs) 250 0 = k_250_0 := (show m_tgl s_250 0 = m_fl (s_250.drop 0) from rfl).trans fl_250_0
theorem tg_250_12 {L : Nat} {xs : Nat → Int32} : m_tg (p_P L xs) 250 12 = k_250_12 := (show m_tgl s_250 12 = m_fl (s_250.drop 1) from rfl).trans fl_250_1
theorem tg_250_21 {L : Nat} {xs : Nat → Int32} : m_tg (p_P L xs) 250 21 = k_250_21 := (show m_tgl s_250 21 = m_fl (s_250.drop 2) from rfl).trans fl_250_2
noncomputable def k_251_21 : List Instr := .ireturn :: []
theorem fl_251_2 : m_fl (s_251.drop 2) = k_251_21 := rfl
noncomputable def k_251_12 : List Instr := .aload 0 :: .aload 0 :: .getfield 780 :: .iload 1 :: .invokevirtual 225 :: k_251_21
theorem fl_251_1 : m_fl (s_251.drop 1) = k_251_12 := (show m_fl (s_251.drop 1) = [.aload 0, .aload 0, .getfield 780, .iload 1, .invokevirtual 225] ++ m_fl (s_251.drop 2) from rfl).trans (by rw [fl_251_2]; rfl)
noncomputable def k_251_0 : List Instr := .aload 0 :: .iload 1 :: .invokevirtual 241 :: .ifCond .eq 12 :: .iconst 0 :: .goto 21 :: k_251_12
theorem fl_251_0 : m_fl (s_251.drop 0) = k_251_0 := (show m_fl (s_251.drop 0) = [.aload 0, .iload 1, .invokevirtual 241, .ifCond .eq 12, .iconst 0, .goto 21] ++ m_fl (s_251.drop 1) from rfl).trans (by rw [fl_251_1]; rfl)
theorem tn_251_0 {L : Nat} {xs : Nat → Int32} : m_tg (p_P L xs) 251 0 = k_251_0 := (show m_tgl s_251 0 = m_fl (s_251.drop 0) from rfl).trans fl_251_0
theorem tg_251_12 {L : Nat} {xs : Nat → Int32} : m_tg (p_P L xs) 251 12 = k_251_12 := (show m_tgl s_251 12 = m_fl (s_251.drop 1) from rfl).trans fl_251_1
theorem tg_251_21 {L : Nat} {xs : Nat → Int32} : m_tg (p_P L xs) 251 21 = k_251_21 := (show m_tgl s_251 21 = m_fl (s_251.drop 2) from rfl).trans fl_251_2
noncomputable def k_252_64 : List Instr := .iload 2 :: .ireturn :: []
theorem fl_252_5 : m_fl (s_252.drop 5) = k_252_64 := rfl
noncomputable def k_252_56 : List Instr := .iadd :: .istore 2 :: .iinc 3 1 :: .goto 14 :: k_252_64
theorem fl_252_4 : m_fl (s_252.drop 4) = k_252_56 := (show m_fl (s_252.drop 4) = [.iadd, .istore 2, .iinc 3 1, .goto 14] ++ m_fl (s_252.drop 5) from rfl).trans (by rw [fl_252_5]; rfl)
noncomputable def k_252_55 : List Instr := .iconst 0 :: k_252_56
theorem fl_252_3 : m_fl (s_252.drop 3) = k_252_55 := (show m_fl (s_252.drop 3) = [.iconst 0] ++ m_fl (s_252.drop 4) from rfl).trans (by rw [fl_252_4]; rfl)
noncomputable def k_252_14 : List Instr := .iload 3 :: .aload 0 :: .getfield 780 :: .iconst 1 :: .iaload :: .if_icmp .ge 64 :: .iload 2 :: .aload 0 :: .getfield 780 :: .iload 3 :: .iconst 0 :: .invokestatic 211 :: .iload 1 :: .if_icmp .ne 55 :: .aload 0 :: .getfield 780 :: .iload 3 :: .iconst 6 :: .invokestatic 211 :: .ifCond .ne 55 :: .iconst 1 :: .goto 56 :: k_252_55
theorem fl_252_2 : m_fl (s_252.drop 2) = k_252_14 := (show m_fl (s_252.drop 2) = [.iload 3, .aload 0, .getfield 780, .iconst 1, .iaload, .if_icmp .ge 64, .iload 2, .aload 0, .getfield 780, .iload 3, .iconst 0, .invokestatic 211, .iload 1, .if_icmp .ne 55, .aload 0, .getfield 780, .iload 3, .iconst 6, .invokestatic 211, .ifCond .ne 55, .iconst 1, .goto 56] ++ m_fl (s_252.drop 3) from rfl).trans (by rw [fl_252_3]; rfl)
noncomputable def k_252_10 : List Instr := .iconst 0 :: .istore 2 :: .iconst 0 :: .istore 3 :: k_252_14
theorem fl_252_1 : m_fl (s_252.drop 1) = k_252_10 := (show m_fl (s_252.drop 1) = [.iconst 0, .istore 2, .iconst 0, .istore 3] ++ m_fl (s_252.drop 2) from rfl).trans (by rw [fl_252_2]; rfl)
noncomputable def k_252_0 : List Instr := .aload 0 :: .iload 1 :: .invokevirtual 241 :: .ifCond .eq 10 :: .iconst 0 :: .ireturn :: k_252_10
theorem fl_252_0 : m_fl (s_252.drop 0) = k_252_0 := (show m_fl (s_252.drop 0) = [.aload 0, .iload 1, .invokevirtual 241, .ifCond .eq 10, .iconst 0, .ireturn] ++ m_fl (s_252.drop 1) from rfl).trans (by rw [fl_252_1]; rfl)
theorem tn_252_0 {L : Nat} {xs : Nat → Int32} : m_tg (p_P L xs) 252 0 = k_252_0 := (show m_tgl s_252 0 = m_fl (s_252.drop 0) from rfl).trans fl_252_0
theorem tg_252_10 {L : Nat} {xs : Nat → Int32} : m_tg (p_P L xs) 252 10 = k_252_10 := (show m_tgl s_252 10 = m_fl (s_252.drop 1) from rfl).trans fl_252_1
theorem tg_252_14 {L : Nat} {xs : Nat → Int32} : m_tg (p_P L xs) 252 14 = k_252_14 := (show m_tgl s_252 14 = m_fl (s_252.drop 2) from rfl).trans fl_252_2
theorem tg_252_55 {L : Nat} {xs : Nat → Int32} : m_tg (p_P L xs) 252 55 = k_252_55 := (show m_tgl s_252 55 = m_fl (s_252.drop 3) from rfl).trans fl_252_3
theorem tg_252_56 {L : Nat} {xs : Nat → Int32} : m_tg (p_P L xs) 252 56 = k_252_56 := (show m_tgl s_252 56 = m_fl (s_252.drop 4) from rfl).trans fl_252_4
theorem tg_252_64 {L : Nat} {xs : Nat → Int32} : m_tg (p_P L xs) 252 64 = k_252_64 := (show m_tgl s_252 64 = m_fl (s_252.drop 5) from rfl).trans fl_252_5
noncomputable def k_253_0 : List Instr := .aload 0 :: .iconst 0 :: .putfield 768 :: .aload 0 :: .aload 0 :: .iload 1 :: .invokevirtual 234 :: .iconst 1 :: .invokevirtual 154 :: .ret 0 :: []
theorem fl_253_0 : m_fl (s_253.drop 0) = k_253_0 := rfl
theorem tn_253_0 {L : Nat} {xs : Nat → Int32} : m_tg (p_P L xs) 253 0 = k_253_0 := (show m_tgl s_253 0 = m_fl (s_253.drop 0) from rfl).trans fl_253_0
noncomputable def k_254_133 : List Instr := .ireturn :: []
theorem fl_254_8 : m_fl (s_254.drop 8) = k_254_133 := rfl
noncomputable def k_254_132 : List Instr := .iconst 0 :: k_254_133
theorem fl_254_7 : m_fl (s_254.drop 7) = k_254_132 := (show m_fl (s_254.drop 7) = [.iconst 0] ++ m_fl (s_254.drop 8) from rfl).trans (by rw [fl_254_8]; rfl)
noncomputable def k_254_85 : List Instr := .aload 0 :: .getfield 780 :: .iload 1 :: .iconst 0 :: .invokestatic 211 :: .istore 3 :: .aload 0 :: .getfield 780 :: .iconst 12 :: .iload 3 :: .iadd :: .iaload :: .ifCond .ne 132 :: .aload 0 :: .getfield 780 :: .iconst 32 :: .iload 3 :: .iadd :: .iaload :: .iload 1 :: .if_icmp .ne 132 :: .aload 0 :: .getfield 780 :: .iconst 36 :: .iload 3 :: .iadd :: .iaload :: .goto 133 :: k_254_132
theorem fl_254_6 : m_fl (s_254.drop 6) = k_254_85 := (show m_fl (s_254.drop 6) = [.aload 0, .getfield 780, .iload 1, .iconst 0, .invokestatic 211, .istore 3, .aload 0, .getfield 780, .iconst 12, .iload 3, .iadd, .iaload, .ifCond .ne 132, .aload 0, .getfield 780, .iconst 32, .iload 3, .iadd, .iaload, .iload 1, .if_icmp .ne 132, .aload 0, .getfield 780, .iconst 36, .iload 3, .iadd, .iaload, .goto 133] ++ m_fl (s_254.drop 7) from rfl).trans (by rw [fl_254_7]; rfl)
noncomputable def k_254_84 : List Instr := .ireturn :: k_254_85
theorem fl_254_5 : m_fl (s_254.drop 5) = k_254_84 := (show m_fl (s_254.drop 5) = [.ireturn] ++ m_fl (s_254.drop 6) from rfl).trans (by rw [fl_254_6]; rfl)
noncomputable def k_254_73 : List Instr := .aload 0 :: .getfield 780 :: .iload 1 :: .iload 2 :: .iconst 1 :: .isub :: .invokestatic 211 :: k_254_84
theorem fl_254_4 : m_fl (s_254.drop 4) = k_254_73 := (show m_fl (s_254.drop 4) = [.aload 0, .getfield 780, .iload 1, .iload 2, .iconst 1, .isub, .invokestatic 211] ++ m_fl (s_254.drop 5) from rfl).trans (by rw [fl_254_5]; rfl)
noncomputable def k_254_43 : List Instr := .iload 2 :: .iconst 11 :: .if_icmp .le 85 :: .iload 2 :: .iconst 14 :: .if_icmp .ne 73 :: .aload 0 :: .getfield 780 :: .iload 1 :: .iconst 6 :: .invokestatic 211 :: .iconst 2 :: .if_icmp .ge 73 :: .iconst (-1) :: .goto 84 :: k_254_73
theorem fl_254_3 : m_fl (s_254.drop 3) = k_254_43 := (show m_fl (s_254.drop 3) = [.iload 2, .iconst 11, .if_icmp .le 85, .iload 2, .iconst 14, .if_icmp .ne 73, .aload 0, .getfield 780, .iload 1, .iconst 6, .invokestatic 211, .iconst 2, .if_icmp .ge 73, .iconst (-1), .goto 84] ++ m_fl (s_254.drop 4) from rfl).trans (by rw [fl_254_4]; rfl)
noncomputable def k_254_27 : List Instr := .iload 2 :: .iconst 11 :: .if_icmp .ge 43 :: .aload 0 :: .getfield 780 :: .iload 1 :: .iload 2 :: .invokestatic 211 :: .ireturn :: k_254_43
theorem fl_254_2 : m_fl (s_254.drop 2) = k_254_27 := (show m_fl (s_254.drop 2) = [.iload 2, .iconst 11, .if_icmp .ge 43, .aload 0, .getfield 780, .iload 1, .iload 2, .invokestatic 211, .ireturn] ++ m_fl (s_254.drop 3) from rfl).trans (by rw [fl_254_3]; rfl)
noncomputable def k_254_25 : List Instr := .iconst 0 :: .ireturn :: k_254_27
theorem fl_254_1 : m_fl (s_254.drop 1) = k_254_25 := (show m_fl (s_254.drop 1) = [.iconst 0, .ireturn] ++ m_fl (s_254.drop 2) from rfl).trans (by rw [fl_254_2]; rfl)
noncomputable def k_254_0 : List Instr := .aload 0 :: .iload 1 :: .invokevirtual 253 :: .ifCond .ne 25 :: .aload 0 :: .iload 2 :: .i2l :: .ldc2_w 0 :: .ldc2_w 14 :: .invokestatic 153 :: .iconst 1 :: .invokevirtual 154 :: .ifCond .eq 27 :: k_254_25
theorem fl_254_0 : m_fl (s_254.drop 0) = k_254_0 := (show m_fl (s_254.drop 0) = [.aload 0, .iload 1, .invokevirtual 253, .ifCond .ne 25, .aload 0, .iload 2, .i2l, .ldc2_w 0, .ldc2_w 14, .invokestatic 153, .iconst 1, .invokevirtual 154, .ifCond .eq 27] ++ m_fl (s_254.drop 1) from rfl).trans (by rw [fl_254_1]; rfl)
theorem tn_254_0 {L : Nat} {xs : Nat → Int32} : m_tg (p_P L xs) 254 0 = k_254_0 := (show m_tgl s_254 0 = m_fl (s_254.drop 0) from rfl).trans fl_254_0
theorem tg_254_25 {L : Nat} {xs : Nat → Int32} : m_tg (p_P L xs) 254 25 = k_254_25 := (show m_tgl s_254 25 = m_fl (s_254.drop 1) from rfl).trans fl_254_1
theorem tg_254_27 {L : Nat} {xs : Nat → Int32} : m_tg (p_P L xs) 254 27 = k_254_27 := (show m_tgl s_254 27 = m_fl (s_254.drop 2) from rfl).trans fl_254_2
theorem tg_254_43 {L : Nat} {xs : Nat → Int32} : m_tg (p_P L xs) 254 43 = k_254_43 := (show m_tgl s_254 43 = m_fl (s_254.drop 3) from rfl).trans fl_254_3
theorem tg_254_73 {L : Nat} {xs : Nat → Int32} : m_tg (p_P L xs) 254 73 = k_254_73 := (show m_tgl s_254 73 = m_fl (s_254.drop 4) from rfl).trans fl_254_4
theorem tg_254_84 {L : Nat} {xs : Nat → Int32} : m_tg (p_P L xs) 254 84 = k_254_84 := (show m_tgl s_254 84 = m_fl (s_254.drop 5) from rfl).trans fl_254_5
theorem tg_254_85 {L : Nat} {xs : Nat → Int32} : m_tg (p_P L xs) 254 85 = k_254_85 := (show m_tgl s_254 85 = m_fl (s_254.drop 6) from rfl).trans fl_254_6
theorem tg_254_132 {L : Nat} {xs : Nat → Int32} : m_tg (p_P L xs) 254 132 = k_254_132 := (show m_tgl s_254 132 = m_fl (s_254.drop 7) from rfl).trans fl_254_7
theorem tg_254_133 {L : Nat} {xs : Nat → Int32} : m_tg (p_P L xs) 254 133 = k_254_133 := (show m_tgl s_254 133 = m_fl (s_254.drop 8) from rfl).trans fl_254_8
noncomputable def k_255_0 : List Instr := .aload 0 :: .iconst 0 :: .putfield 768 :: .aload 0 :: .getfield 780 :: .iconst 2 :: .iaload :: .ireturn :: []
theorem fl_255_0 : m_fl (s_255.drop 0) = k_255_0 := rfl
theorem tn_255_0 {L : Nat} {xs : Nat → Int32} : m_tg (p_P L xs) 255 0 = k_255_0 := (show m_tgl s_255 0 = m_fl (s_255.drop 0) from rfl).trans fl_255_0
noncomputable def k_256_50 : List Instr := .aload 0 :: .getfield 780 :: .iconst 1592 :: .iconst 4 :: .iload 1 :: .imul :: .iadd :: .iload 2 :: .iadd :: .iaload :: .ireturn :: []
theorem fl_256_3 : m_fl (s_256.drop 3) = k_256_50 := rfl
noncomputable def k_256_41 : List Instr := .iconst 1 :: .invokevirtual 154 :: .ifCond .eq 50 :: .iconst 0 :: .ireturn :: k_256_50
theorem fl_256_2 : m_fl (s_256.drop 2) = k_256_41 := (show m_fl (s_256.drop 2) = [.iconst 1, .invokevirtual 154, .ifCond .eq 50, .iconst 0, .ireturn] ++ m_fl (s_256.drop 3) from rfl).trans (by rw [fl_256_3]; rfl)
noncomputable def k_256_40 : List Instr := .iconst 0 :: k_256_41
theorem fl_256_1 : m_fl (s_256.drop 1) = k_256_40 := (show m_fl (s_256.drop 1) = [.iconst 0] ++ m_fl (s_256.drop 2) from rfl).trans (by rw [fl_256_2]; rfl)
noncomputable def k_256_0 : List Instr := .aload 0 :: .iconst 0 :: .putfield 768 :: .aload 0 :: .iload 1 :: .i2l :: .ldc2_w 0 :: .aload 0 :: .getfield 780 :: .iconst 2 :: .iaload :: .iconst 1 :: .isub :: .i2l :: .invokestatic 153 :: .ifCond .eq 40 :: .iload 2 :: .i2l :: .ldc2_w 0 :: .ldc2_w 3 :: .invokestatic 153 :: .ifCond .eq 40 :: .iconst 1 :: .goto 41 :: k_256_40
theorem fl_256_0 : m_fl (s_256.drop 0) = k_256_0 := (show m_fl (s_256.drop 0) = [.aload 0, .iconst 0, .putfield 768, .aload 0, .iload 1, .i2l, .ldc2_w 0, .aload 0, .getfield 780, .iconst 2, .iaload, .iconst 1, .isub, .i2l, .invokestatic 153, .ifCond .eq 40, .iload 2, .i2l, .ldc2_w 0, .ldc2_w 3, .invokestatic 153, .ifCond .eq 40, .iconst 1, .goto 41] ++ m_fl (s_256.drop 1) from rfl).trans (by rw [fl_256_1]; rfl)
theorem tn_256_0 {L : Nat} {xs : Nat → Int32} : m_tg (p_P L xs) 256 0 = k_256_0 := (show m_tgl s_256 0 = m_fl (s_256.drop 0) from rfl).trans fl_256_0
theorem tg_256_40 {L : Nat} {xs : Nat → Int32} : m_tg (p_P L xs) 256 40 = k_256_40 := (show m_tgl s_256 40 = m_fl (s_256.drop 1) from rfl).trans fl_256_1
theorem tg_256_41 {L : Nat} {xs : Nat → Int32} : m_tg (p_P L xs) 256 41 = k_256_41 := (show m_tgl s_256 41 = m_fl (s_256.drop 2) from rfl).trans fl_256_2
theorem tg_256_50 {L : Nat} {xs : Nat → Int32} : m_tg (p_P L xs) 256 50 = k_256_50 := (show m_tgl s_256 50 = m_fl (s_256.drop 3) from rfl).trans fl_256_3
noncomputable def k_257_29 : List Instr := .ireturn :: []
theorem fl_257_2 : m_fl (s_257.drop 2) = k_257_29 := rfl
noncomputable def k_257_28 : List Instr := .iconst (-1) :: k_257_29
theorem fl_257_1 : m_fl (s_257.drop 1) = k_257_28 := (show m_fl (s_257.drop 1) = [.iconst (-1)] ++ m_fl (s_257.drop 2) from rfl).trans (by rw [fl_257_2]; rfl)
noncomputable def k_257_0 : List Instr := .aload 0 :: .iconst 0 :: .putfield 768 :: .iload 1 :: .i2l :: .ldc2_w 0 :: .ldc2_w 8 :: .invokestatic 153 :: .ifCond .eq 28 :: .aload 0 :: .getfield 780 :: .iconst 3 :: .iload 1 :: .iadd :: .iaload :: .goto 29 :: k_257_28
theorem fl_257_0 : m_fl (s_257.drop 0) = k_257_0 := (show m_fl (s_257.drop 0) = [.aload 0, .iconst 0, .putfield 768, .iload 1, .i2l, .ldc2_w 0, .ldc2_w 8, .invokestatic 153, .ifCond .eq 28, .aload 0, .getfield 780, .iconst 3, .iload 1, .iadd, .iaload, .goto 29] ++ m_fl (s_257.drop 1) from rfl).trans (by rw [fl_257_1]; rfl)
theorem tn_257_0 {L : Nat} {xs : Nat → Int32} : m_tg (p_P L xs) 257 0 = k_257_0 := (show m_tgl s_257 0 = m_fl (s_257.drop 0) from rfl).trans fl_257_0
theorem tg_257_28 {L : Nat} {xs : Nat → Int32} : m_tg (p_P L xs) 257 28 = k_257_28 := (show m_tgl s_257 28 = m_fl (s_257.drop 1) from rfl).trans fl_257_1
theorem tg_257_29 {L : Nat} {xs : Nat → Int32} : m_tg (p_P L xs) 257 29 = k_257_29 := (show m_tgl s_257 29 = m_fl (s_257.drop 2) from rfl).trans fl_257_2
noncomputable def k_258_41 : List Instr := .dreturn :: []
theorem fl_258_3 : m_fl (s_258.drop 3) = k_258_41 := rfl
noncomputable def k_258_23 : List Instr := .aload 0 :: .getfield 780 :: .iconst 40 :: .iload 1 :: .iadd :: .iaload :: .i2d :: .aload 0 :: .getfield 780 :: .iconst 0 :: .iaload :: .i2d :: .ddiv :: k_258_41
theorem fl_258_2 : m_fl (s_258.drop 2) = k_258_23 := (show m_fl (s_258.drop 2) = [.aload 0, .getfield 780, .iconst 40, .iload 1, .iadd, .iaload, .i2d, .aload 0, .getfield 780, .iconst 0, .iaload, .i2d, .ddiv] ++ m_fl (s_258.drop 3) from rfl).trans (by rw [fl_258_3]; rfl)
noncomputable def k_258_10 : List Instr := .aload 0 :: .getfield 780 :: .iconst 0 :: .iaload :: .ifCond .ne 23 :: .dconst 1 :: .goto 41 :: k_258_23
theorem fl_258_1 : m_fl (s_258.drop 1) = k_258_10 := (show m_fl (s_258.drop 1) = [.aload 0, .getfield 780, .iconst 0, .iaload, .ifCond .ne 23, .dconst 1, .goto 41] ++ m_fl (s_258.drop 2) from rfl).trans (by rw [fl_258_2]; rfl)
noncomputable def k_258_0 : List Instr := .aload 0 :: .iload 1 :: .invokevirtual 241 :: .ifCond .eq 10 :: .dconst 0 :: .dreturn :: k_258_10
theorem fl_258_0 : m_fl (s_258.drop 0) = k_258_0 := (show m_fl (s_258.drop 0) = [.aload 0, .iload 1, .invokevirtual 241, .ifCond .eq 10, .dconst 0, .dreturn] ++ m_fl (s_258.drop 1) from rfl).trans (by rw [fl_258_1]; rfl)
theorem tn_258_0 {L : Nat} {xs : Nat → Int32} : m_tg (p_P L xs) 258 0 = k_258_0 := (show m_tgl s_258 0 = m_fl (s_258.drop 0) from rfl).trans fl_258_0
theorem tg_258_10 {L : Nat} {xs : Nat → Int32} : m_tg (p_P L xs) 258 10 = k_258_10 := (show m_tgl s_258 10 = m_fl (s_258.drop 1) from rfl).trans fl_258_1
theorem tg_258_23 {L : Nat} {xs : Nat → Int32} : m_tg (p_P L xs) 258 23 = k_258_23 := (show m_tgl s_258 23 = m_fl (s_258.drop 2) from rfl).trans fl_258_2
theorem tg_258_41 {L : Nat} {xs : Nat → Int32} : m_tg (p_P L xs) 258 41 = k_258_41 := (show m_tgl s_258 41 = m_fl (s_258.drop 3) from rfl).trans fl_258_3
noncomputable def k_259_107 : List Instr := .freturn :: []
theorem fl_259_7 : m_fl (s_259.drop 7) = k_259_107 := rfl
noncomputable def k_259_102 : List Instr := .iload 2 :: .i2f :: .iload 3 :: .i2f :: .fdiv :: k_259_107
theorem fl_259_6 : m_fl (s_259.drop 6) = k_259_102 := (show m_fl (s_259.drop 6) = [.iload 2, .i2f, .iload 3, .i2f, .fdiv] ++ m_fl (s_259.drop 7) from rfl).trans (by rw [fl_259_7]; rfl)
noncomputable def k_259_94 : List Instr := .iload 3 :: .ifCond .ne 102 :: .fconst 0 :: .goto 107 :: k_259_102
theorem fl_259_5 : m_fl (s_259.drop 5) = k_259_94 := (show m_fl (s_259.drop 5) = [.iload 3, .ifCond .ne 102, .fconst 0, .goto 107] ++ m_fl (s_259.drop 6) from rfl).trans (by rw [fl_259_6]; rfl)
noncomputable def k_259_88 : List Instr := .iinc 4 1 :: .goto 17 :: k_259_94
theorem fl_259_4 : m_fl (s_259.drop 4) = k_259_88 := (show m_fl (s_259.drop 4) = [.iinc 4 1, .goto 17] ++ m_fl (s_259.drop 5) from rfl).trans (by rw [fl_259_5]; rfl)
noncomputable def k_259_60 : List Instr := .iload 2 :: .aload 0 :: .getfield 780 :: .iload 4 :: .iconst 13 :: .invokestatic 211 :: .aload 0 :: .getfield 780 :: .iload 4 :: .iconst 5 :: .invokestatic 211 :: .isub :: .iadd :: .istore 2 :: .iinc 3 1 :: k_259_88
theorem fl_259_3 : m_fl (s_259.drop 3) = k_259_60 := (show m_fl (s_259.drop 3) = [.iload 2, .aload 0, .getfield 780, .iload 4, .iconst 13, .invokestatic 211, .aload 0, .getfield 780, .iload 4, .iconst 5, .invokestatic 211, .isub, .iadd, .istore 2, .iinc 3 1] ++ m_fl (s_259.drop 4) from rfl).trans (by rw [fl_259_4]; rfl)
noncomputable def k_259_17 : List Instr := .iload 4 :: .aload 0 :: .getfield 780 :: .iconst 1 :: .iaload :: .if_icmp .ge 94 :: .aload 0 :: .getfield 780 :: .iload 4 :: .iconst 0 :: .invokestatic 211 :: .iload 1 :: .if_icmp .ne 88 :: .aload 0 :: .getfield 780 :: .iload 4 :: .iconst 6 :: .invokestatic 211 :: .iconst 2 :: .if_icmp .eq 60 :: .goto 88 :: k_259_60
theorem fl_259_2 : m_fl (s_259.drop 2) = k_259_17 := (show m_fl (s_259.drop 2) = [.iload 4, .aload 0, .getfield 780, .iconst 1, .iaload, .if_icmp .ge 94, .aload 0, .getfield 780, .iload 4, .iconst 0, .invokestatic 211, .iload 1, .if_icmp .ne 88, .aload 0, .getfield 780, .iload 4, .iconst 6, .invokestatic 211, .iconst 2, .if_icmp .eq 60, .goto 88] ++ m_fl (s_259.drop 3) from rfl).trans (by rw [fl_259_3]; rfl)
noncomputable def k_259_10 : List Instr := .iconst 0 :: .istore 2 :: .iconst 0 :: .istore 3 :: .iconst 0 :: .istore 4 :: k_259_17
theorem fl_259_1 : m_fl (s_259.drop 1) = k_259_10 := (show m_fl (s_259.drop 1) = [.iconst 0, .istore 2, .iconst 0, .istore 3, .iconst 0, .istore 4] ++ m_fl (s_259.drop 2) from rfl).trans (by rw [fl_259_2]; rfl)
noncomputable def k_259_0 : List Instr := .aload 0 :: .iload 1 :: .invokevirtual 241 :: .ifCond .eq 10 :: .fconst 0 :: .freturn :: k_259_10
theorem fl_259_0 : m_fl (s_259.drop 0) = k_259_0 := (show m_fl (s_259.drop 0) = [.aload 0, .iload 1, .invokevirtual 241, .ifCond .eq 10, .fconst 0, .freturn] ++ m_fl (s_259.drop 1) from rfl).trans (by rw [fl_259_1]; rfl)
theorem tn_259_0 {L : Nat} {xs : Nat → Int32} : m_tg (p_P L xs) 259 0 = k_259_0 := (show m_tgl s_259 0 = m_fl (s_259.drop 0) from rfl).trans fl_259_0
theorem tg_259_10 {L : Nat} {xs : Nat → Int32} : m_tg (p_P L xs) 259 10 = k_259_10 := (show m_tgl s_259 10 = m_fl (s_259.drop 1) from rfl).trans fl_259_1
theorem tg_259_17 {L : Nat} {xs : Nat → Int32} : m_tg (p_P L xs) 259 17 = k_259_17 := (show m_tgl s_259 17 = m_fl (s_259.drop 2) from rfl).trans fl_259_2
theorem tg_259_60 {L : Nat} {xs : Nat → Int32} : m_tg (p_P L xs) 259 60 = k_259_60 := (show m_tgl s_259 60 = m_fl (s_259.drop 3) from rfl).trans fl_259_3
theorem tg_259_88 {L : Nat} {xs : Nat → Int32} : m_tg (p_P L xs) 259 88 = k_259_88 := (show m_tgl s_259 88 = m_fl (s_259.drop 4) from rfl).trans fl_259_4
theorem tg_259_94 {L : Nat} {xs : Nat → Int32} : m_tg (p_P L xs) 259 94 = k_259_94 := (show m_tgl s_259 94 = m_fl (s_259.drop 5) from rfl).trans fl_259_5
theorem tg_259_102 {L : Nat} {xs : Nat → Int32} : m_tg (p_P L xs) 259 102 = k_259_102 := (show m_tgl s_259 102 = m_fl (s_259.drop 6) from rfl).trans fl_259_6
theorem tg_259_107 {L : Nat} {xs : Nat → Int32} : m_tg (p_P L xs) 259 107 = k_259_107 := (show m_tgl s_259 107 = m_fl (s_259.drop 7) from rfl).trans fl_259_7
noncomputable def k_260_88 : List Instr := .aload 0 :: .dup :: .getfield 785 :: .iconst 1 :: .iadd :: .putfield 785 :: .return_ :: []
theorem fl_260_5 : m_fl (s_260.drop 5) = k_260_88 := rfl
noncomputable def k_260_54 : List Instr := .iload 1 :: .iconst 2392 :: .if_icmp .ge 88 :: .aload 0 :: .getfield 783 :: .iconst 2392 :: .aload 0 :: .getfield 785 :: .imul :: .iload 1 :: .iadd :: .aload 0 :: .getfield 780 :: .iload 1 :: .iaload :: .iastore :: .iinc 1 1 :: .goto 54 :: k_260_88
theorem fl_260_4 : m_fl (s_260.drop 4) = k_260_54 := (show m_fl (s_260.drop 4) = [.iload 1, .iconst 2392, .if_icmp .ge 88, .aload 0, .getfield 783, .iconst 2392, .aload 0, .getfield 785, .imul, .iload 1, .iadd, .aload 0, .getfield 780, .iload 1, .iaload, .iastore, .iinc 1 1, .goto 54] ++ m_fl (s_260.drop 5) from rfl).trans (by rw [fl_260_5]; rfl)
noncomputable def k_260_52 : List Instr := .iconst 0 :: .istore 1 :: k_260_54
theorem fl_260_3 : m_fl (s_260.drop 3) = k_260_52 := (show m_fl (s_260.drop 3) = [.iconst 0, .istore 1] ++ m_fl (s_260.drop 4) from rfl).trans (by rw [fl_260_4]; rfl)
noncomputable def k_260_42 : List Instr := .aload 0 :: .dup :: .getfield 785 :: .iconst 1 :: .isub :: .putfield 785 :: k_260_52
theorem fl_260_2 : m_fl (s_260.drop 2) = k_260_42 := (show m_fl (s_260.drop 2) = [.aload 0, .dup, .getfield 785, .iconst 1, .isub, .putfield 785] ++ m_fl (s_260.drop 3) from rfl).trans (by rw [fl_260_3]; rfl)
noncomputable def k_260_13 : List Instr := .iload 1 :: .iconst 23920 :: .if_icmp .ge 42 :: .aload 0 :: .getfield 783 :: .iload 1 :: .iconst 2392 :: .isub :: .aload 0 :: .getfield 783 :: .iload 1 :: .iaload :: .iastore :: .iinc 1 1 :: .goto 13 :: k_260_42
theorem fl_260_1 : m_fl (s_260.drop 1) = k_260_13 := (show m_fl (s_260.drop 1) = [.iload 1, .iconst 23920, .if_icmp .ge 42, .aload 0, .getfield 783, .iload 1, .iconst 2392, .isub, .aload 0, .getfield 783, .iload 1, .iaload, .iastore, .iinc 1 1, .goto 13] ++ m_fl (s_260.drop 2) from rfl).trans (by rw [fl_260_2]; rfl)
noncomputable def k_260_0 : List Instr := .aload 0 :: .getfield 785 :: .iconst 10 :: .if_icmp .ne 52 :: .iconst 2392 :: .istore 1 :: k_260_13
theorem fl_260_0 : m_fl (s_260.drop 0) = k_260_0 := (show m_fl (s_260.drop 0) = [.aload 0, .getfield 785, .iconst 10, .if_icmp .ne 52, .iconst 2392, .istore 1] ++ m_fl (s_260.drop 1) from rfl).trans (by rw [fl_260_1]; rfl)
theorem tn_260_0 {L : Nat} {xs : Nat → Int32} : m_tg (p_P L xs) 260 0 = k_260_0 := (show m_tgl s_260 0 = m_fl (s_260.drop 0) from rfl).trans fl_260_0
theorem tg_260_13 {L : Nat} {xs : Nat → Int32} : m_tg (p_P L xs) 260 13 = k_260_13 := (show m_tgl s_260 13 = m_fl (s_260.drop 1) from rfl).trans fl_260_1
theorem tg_260_42 {L : Nat} {xs : Nat → Int32} : m_tg (p_P L xs) 260 42 = k_260_42 := (show m_tgl s_260 42 = m_fl (s_260.drop 2) from rfl).trans fl_260_2
theorem tg_260_52 {L : Nat} {xs : Nat → Int32} : m_tg (p_P L xs) 260 52 = k_260_52 := (show m_tgl s_260 52 = m_fl (s_260.drop 3) from rfl).trans fl_260_3
theorem tg_260_54 {L : Nat} {xs : Nat → Int32} : m_tg (p_P L xs) 260 54 = k_260_54 := (show m_tgl s_260 54 = m_fl (s_260.drop 4) from rfl).trans fl_260_4
theorem tg_260_88 {L : Nat} {xs : Nat → Int32} : m_tg (p_P L xs) 260 88 = k_260_88 := (show m_tgl s_260 88 = m_fl (s_260.drop 5) from rfl).trans fl_260_5
noncomputable def k_261_141 : List Instr := .aload 0 :: .getfield 780 :: .iload 6 :: .iconst 0 :: .iload 1 :: .invokestatic 212 :: .aload 0 :: .getfield 780 :: .iload 6 :: .iconst 1 :: .iload 2 :: .invokestatic 212 :: .aload 0 :: .getfield 780 :: .iload 6 :: .iconst 2 :: .iload 3 :: .invokestatic 212 :: .aload 0 :: .getfield 780 :: .iload 6 :: .iconst 3 :: .iload 4 :: .invokestatic 212 :: .aload 0 :: .getfield 780 :: .iload 6 :: .iconst 4 :: .iload 5 :: .invokestatic 212 :: .aload 0 :: .getfield 780 :: .iload 6 :: .iconst 5 :: .aload 0 :: .getfield 780 :: .iconst 0 :: .iaload :: .invokestatic 212 :: .aload 0 :: .getfield 780 :: .iconst 1 :: .dup2 :: .iaload :: .iconst 1 :: .iadd :: .iastore :: .aload 0 :: .aload 0 :: .getfield 780 :: .iconst 0 :: .iload 1 :: .iload 6 :: .invokevirtual 216 :: .iload 6 :: .ireturn :: []
theorem fl_261_10 : m_fl (s_261.drop 10) = k_261_141 := rfl
noncomputable def k_261_116 : List Instr := .iload 7 :: .iconst 14 :: .if_icmp .ge 141 :: .aload 0 :: .getfield 780 :: .iload 6 :: .iload 7 :: .iconst 0 :: .invokestatic 212 :: .iinc 7 1 :: .goto 116 :: k_261_141
theorem fl_261_9 : m_fl (s_261.drop 9) = k_261_116 := (show m_fl (s_261.drop 9) = [.iload 7, .iconst 14, .if_icmp .ge 141, .aload 0, .getfield 780, .iload 6, .iload 7, .iconst 0, .invokestatic 212, .iinc 7 1, .goto 116] ++ m_fl (s_261.drop 10) from rfl).trans (by rw [fl_261_10]; rfl)
noncomputable def k_261_109 : List Instr := .aload 0 :: .invokevirtual 260 :: .iconst 0 :: .istore 7 :: k_261_116
theorem fl_261_8 : m_fl (s_261.drop 8) = k_261_109 := (show m_fl (s_261.drop 8) = [.aload 0, .invokevirtual 260, .iconst 0, .istore 7] ++ m_fl (s_261.drop 9) from rfl).trans (by rw [fl_261_9]; rfl)
noncomputable def k_261_91 : List Instr := .aload 0 :: .getfield 780 :: .iconst 1 :: .iaload :: .istore 6 :: .iload 6 :: .iconst 100 :: .if_icmp .ne 109 :: .iconst (-3) :: .ireturn :: k_261_109
theorem fl_261_7 : m_fl (s_261.drop 7) = k_261_91 := (show m_fl (s_261.drop 7) = [.aload 0, .getfield 780, .iconst 1, .iaload, .istore 6, .iload 6, .iconst 100, .if_icmp .ne 109, .iconst (-3), .ireturn] ++ m_fl (s_261.drop 8) from rfl).trans (by rw [fl_261_8]; rfl)
noncomputable def k_261_75 : List Instr := .aload 0 :: .getfield 780 :: .iconst 12 :: .iload 1 :: .iadd :: .iaload :: .iconst 2 :: .if_icmp .ne 91 :: .iconst (-2) :: .ireturn :: k_261_91
theorem fl_261_6 : m_fl (s_261.drop 6) = k_261_75 := (show m_fl (s_261.drop 6) = [.aload 0, .getfield 780, .iconst 12, .iload 1, .iadd, .iaload, .iconst 2, .if_icmp .ne 91, .iconst (-2), .ireturn] ++ m_fl (s_261.drop 7) from rfl).trans (by rw [fl_261_7]; rfl)
noncomputable def k_261_73 : List Instr := .iconst 0 :: .ireturn :: k_261_75
theorem fl_261_5 : m_fl (s_261.drop 5) = k_261_73 := (show m_fl (s_261.drop 5) = [.iconst 0, .ireturn] ++ m_fl (s_261.drop 6) from rfl).trans (by rw [fl_261_6]; rfl)
noncomputable def k_261_66 : List Instr := .iconst 2 :: .invokevirtual 154 :: .ifCond .eq 75 :: k_261_73
theorem fl_261_4 : m_fl (s_261.drop 4) = k_261_66 := (show m_fl (s_261.drop 4) = [.iconst 2, .invokevirtual 154, .ifCond .eq 75] ++ m_fl (s_261.drop 5) from rfl).trans (by rw [fl_261_5]; rfl)
noncomputable def k_261_65 : List Instr := .iconst 0 :: k_261_66
theorem fl_261_3 : m_fl (s_261.drop 3) = k_261_65 := (show m_fl (s_261.drop 3) = [.iconst 0] ++ m_fl (s_261.drop 4) from rfl).trans (by rw [fl_261_4]; rfl)
noncomputable def k_261_27 : List Instr := .iconst 1 :: .invokevirtual 154 :: .ifCond .ne 73 :: .aload 0 :: .iload 4 :: .i2l :: .ldc2_w 0 :: .ldc2_w 3 :: .invokestatic 153 :: .ifCond .eq 65 :: .iload 5 :: .i2l :: .ldc2_w 0 :: .ldc2_w 100000 :: .invokestatic 153 :: .ifCond .eq 65 :: .iconst 1 :: .goto 66 :: k_261_65
theorem fl_261_2 : m_fl (s_261.drop 2) = k_261_27 := (show m_fl (s_261.drop 2) = [.iconst 1, .invokevirtual 154, .ifCond .ne 73, .aload 0, .iload 4, .i2l, .ldc2_w 0, .ldc2_w 3, .invokestatic 153, .ifCond .eq 65, .iload 5, .i2l, .ldc2_w 0, .ldc2_w 100000, .invokestatic 153, .ifCond .eq 65, .iconst 1, .goto 66] ++ m_fl (s_261.drop 3) from rfl).trans (by rw [fl_261_3]; rfl)
noncomputable def k_261_26 : List Instr := .iconst 0 :: k_261_27
theorem fl_261_1 : m_fl (s_261.drop 1) = k_261_26 := (show m_fl (s_261.drop 1) = [.iconst 0] ++ m_fl (s_261.drop 2) from rfl).trans (by rw [fl_261_2]; rfl)
noncomputable def k_261_0 : List Instr := .aload 0 :: .iconst 0 :: .putfield 768 :: .aload 0 :: .aload 0 :: .iload 1 :: .invokevirtual 232 :: .ifCond .eq 26 :: .aload 0 :: .iload 2 :: .invokevirtual 233 :: .ifCond .eq 26 :: .iconst 1 :: .goto 27 :: k_261_26
theorem fl_261_0 : m_fl (s_261.drop 0) = k_261_0 := (show m_fl (s_261.drop 0) = [.aload 0, .iconst 0, .putfield 768, .aload 0, .aload 0, .iload 1, .invokevirtual 232, .ifCond .eq 26, .aload 0, .iload 2, .invokevirtual 233, .ifCond .eq 26, .iconst 1, .goto 27] ++ m_fl (s_261.drop 1) from rfl).trans (by rw [fl_261_1]; rfl)
theorem tn_261_0 {L : Nat} {xs : Nat → Int32} : m_tg (p_P L xs) 261 0 = k_261_0 := (show m_tgl s_261 0 = m_fl (s_261.drop 0) from rfl).trans fl_261_0
theorem tg_261_26 {L : Nat} {xs : Nat → Int32} : m_tg (p_P L xs) 261 26 = k_261_26 := (show m_tgl s_261 26 = m_fl (s_261.drop 1) from rfl).trans fl_261_1
theorem tg_261_27 {L : Nat} {xs : Nat → Int32} : m_tg (p_P L xs) 261 27 = k_261_27 := (show m_tgl s_261 27 = m_fl (s_261.drop 2) from rfl).trans fl_261_2
theorem tg_261_65 {L : Nat} {xs : Nat → Int32} : m_tg (p_P L xs) 261 65 = k_261_65 := (show m_tgl s_261 65 = m_fl (s_261.drop 3) from rfl).trans fl_261_3
theorem tg_261_66 {L : Nat} {xs : Nat → Int32} : m_tg (p_P L xs) 261 66 = k_261_66 := (show m_tgl s_261 66 = m_fl (s_261.drop 4) from rfl).trans fl_261_4
theorem tg_261_73 {L : Nat} {xs : Nat → Int32} : m_tg (p_P L xs) 261 73 = k_261_73 := (show m_tgl s_261 73 = m_fl (s_261.drop 5) from rfl).trans fl_261_5
theorem tg_261_75 {L : Nat} {xs : Nat → Int32} : m_tg (p_P L xs) 261 75 = k_261_75 := (show m_tgl s_261 75 = m_fl (s_261.drop 6) from rfl).trans fl_261_6
theorem tg_261_91 {L : Nat} {xs : Nat → Int32} : m_tg (p_P L xs) 261 91 = k_261_91 := (show m_tgl s_261 91 = m_fl (s_261.drop 7) from rfl).trans fl_261_7
theorem tg_261_109 {L : Nat} {xs : Nat → Int32} : m_tg (p_P L xs) 261 109 = k_261_109 := (show m_tgl s_261 109 = m_fl (s_261.drop 8) from rfl).trans fl_261_8
theorem tg_261_116 {L : Nat} {xs : Nat → Int32} : m_tg (p_P L xs) 261 116 = k_261_116 := (show m_tgl s_261 116 = m_fl (s_261.drop 9) from rfl).trans fl_261_9
theorem tg_261_141 {L : Nat} {xs : Nat → Int32} : m_tg (p_P L xs) 261 141 = k_261_141 := (show m_tgl s_261 141 = m_fl (s_261.drop 10) from rfl).trans fl_261_10
noncomputable def k_262_26 : List Instr := .aload 0 :: .invokevirtual 260 :: .aload 0 :: .aload 0 :: .getfield 780 :: .iload 1 :: .iconst 4 :: .invokevirtual 217 :: .aload 0 :: .getfield 780 :: .iconst 0 :: .iaload :: .ireturn :: []
theorem fl_262_2 : m_fl (s_262.drop 2) = k_262_26 := rfl
noncomputable def k_262_10 : List Instr := .aload 0 :: .getfield 780 :: .iload 1 :: .iconst 6 :: .invokestatic 211 :: .ifCond .eq 26 :: .iconst (-2) :: .ireturn :: k_262_26
theorem fl_262_1 : m_fl (s_262.drop 1) = k_262_10 := (show m_fl (s_262.drop 1) = [.aload 0, .getfield 780, .iload 1, .iconst 6, .invokestatic 211, .ifCond .eq 26, .iconst (-2), .ireturn] ++ m_fl (s_262.drop 2) from rfl).trans (by rw [fl_262_2]; rfl)
noncomputable def k_262_0 : List Instr := .aload 0 :: .iload 1 :: .invokevirtual 253 :: .ifCond .eq 10 :: .iconst 0 :: .ireturn :: k_262_10
theorem fl_262_0 : m_fl (s_262.drop 0) = k_262_0 := (show m_fl (s_262.drop 0) = [.aload 0, .iload 1, .invokevirtual 253, .ifCond .eq 10, .iconst 0, .ireturn] ++ m_fl (s_262.drop 1) from rfl).trans (by rw [fl_262_1]; rfl)
theorem tn_262_0 {L : Nat} {xs : Nat → Int32} : m_tg (p_P L xs) 262 0 = k_262_0 := (show m_tgl s_262 0 = m_fl (s_262.drop 0) from rfl).trans fl_262_0
theorem tg_262_10 {L : Nat} {xs : Nat → Int32} : m_tg (p_P L xs) 262 10 = k_262_10 := (show m_tgl s_262 10 = m_fl (s_262.drop 1) from rfl).trans fl_262_1
theorem tg_262_26 {L : Nat} {xs : Nat → Int32} : m_tg (p_P L xs) 262 26 = k_262_26 := (show m_tgl s_262 26 = m_fl (s_262.drop 2) from rfl).trans fl_262_2
noncomputable def k_263_64 : List Instr := .aload 0 :: .invokevirtual 260 :: .aload 0 :: .getfield 780 :: .iload 1 :: .iconst 11 :: .invokestatic 211 :: .istore 4 :: .aload 0 :: .getfield 780 :: .iload 1 :: .iconst 11 :: .iload 2 :: .invokestatic 212 :: .aload 0 :: .getfield 780 :: .iload 1 :: .iconst 12 :: .iload 3 :: .invokestatic 212 :: .iload 4 :: .ireturn :: []
theorem fl_263_5 : m_fl (s_263.drop 5) = k_263_64 := rfl
noncomputable def k_263_47 : List Instr := .aload 0 :: .getfield 780 :: .iload 1 :: .iconst 6 :: .invokestatic 211 :: .iconst 2 :: .if_icmp .lt 64 :: .iconst (-2) :: .ireturn :: k_263_64
theorem fl_263_4 : m_fl (s_263.drop 4) = k_263_47 := (show m_fl (s_263.drop 4) = [.aload 0, .getfield 780, .iload 1, .iconst 6, .invokestatic 211, .iconst 2, .if_icmp .lt 64, .iconst (-2), .ireturn] ++ m_fl (s_263.drop 5) from rfl).trans (by rw [fl_263_5]; rfl)
noncomputable def k_263_45 : List Instr := .iconst 0 :: .ireturn :: k_263_47
theorem fl_263_3 : m_fl (s_263.drop 3) = k_263_45 := (show m_fl (s_263.drop 3) = [.iconst 0, .ireturn] ++ m_fl (s_263.drop 4) from rfl).trans (by rw [fl_263_4]; rfl)
noncomputable def k_263_38 : List Instr := .iconst 2 :: .invokevirtual 154 :: .ifCond .eq 47 :: k_263_45
theorem fl_263_2 : m_fl (s_263.drop 2) = k_263_38 := (show m_fl (s_263.drop 2) = [.iconst 2, .invokevirtual 154, .ifCond .eq 47] ++ m_fl (s_263.drop 3) from rfl).trans (by rw [fl_263_3]; rfl)
noncomputable def k_263_37 : List Instr := .iconst 0 :: k_263_38
theorem fl_263_1 : m_fl (s_263.drop 1) = k_263_37 := (show m_fl (s_263.drop 1) = [.iconst 0] ++ m_fl (s_263.drop 2) from rfl).trans (by rw [fl_263_2]; rfl)
noncomputable def k_263_0 : List Instr := .aload 0 :: .iload 1 :: .invokevirtual 253 :: .ifCond .ne 45 :: .aload 0 :: .iload 2 :: .i2l :: .ldc2_w 0 :: .ldc2_w 2 :: .invokestatic 153 :: .ifCond .eq 37 :: .iload 3 :: .i2l :: .ldc2_w 0 :: .ldc2_w 20 :: .invokestatic 153 :: .ifCond .eq 37 :: .iconst 1 :: .goto 38 :: k_263_37
theorem fl_263_0 : m_fl (s_263.drop 0) = k_263_0 := (show m_fl (s_263.drop 0) = [.aload 0, .iload 1, .invokevirtual 253, .ifCond .ne 45, .aload 0, .iload 2, .i2l, .ldc2_w 0, .ldc2_w 2, .invokestatic 153, .ifCond .eq 37, .iload 3, .i2l, .ldc2_w 0, .ldc2_w 20, .invokestatic 153, .ifCond .eq 37, .iconst 1, .goto 38] ++ m_fl (s_263.drop 1) from rfl).trans (by rw [fl_263_1]; rfl)
theorem tn_263_0 {L : Nat} {xs : Nat → Int32} : m_tg (p_P L xs) 263 0 = k_263_0 := (show m_tgl s_263 0 = m_fl (s_263.drop 0) from rfl).trans fl_263_0
theorem tg_263_37 {L : Nat} {xs : Nat → Int32} : m_tg (p_P L xs) 263 37 = k_263_37 := (show m_tgl s_263 37 = m_fl (s_263.drop 1) from rfl).trans fl_263_1
theorem tg_263_38 {L : Nat} {xs : Nat → Int32} : m_tg (p_P L xs) 263 38 = k_263_38 := (show m_tgl s_263 38 = m_fl (s_263.drop 2) from rfl).trans fl_263_2
theorem tg_263_45 {L : Nat} {xs : Nat → Int32} : m_tg (p_P L xs) 263 45 = k_263_45 := (show m_tgl s_263 45 = m_fl (s_263.drop 3) from rfl).trans fl_263_3
theorem tg_263_47 {L : Nat} {xs : Nat → Int32} : m_tg (p_P L xs) 263 47 = k_263_47 := (show m_tgl s_263 47 = m_fl (s_263.drop 4) from rfl).trans fl_263_4
theorem tg_263_64 {L : Nat} {xs : Nat → Int32} : m_tg (p_P L xs) 263 64 = k_263_64 := (show m_tgl s_263 64 = m_fl (s_263.drop 5) from rfl).trans fl_263_5
noncomputable def k_264_25 : List Instr := .aload 0 :: .invokevirtual 260 :: .aload 0 :: .aload 0 :: .getfield 780 :: .iload 1 :: .invokevirtual 222 :: .aload 0 :: .getfield 780 :: .iconst 12 :: .iload 1 :: .iadd :: .iaload :: .ireturn :: []
theorem fl_264_2 : m_fl (s_264.drop 2) = k_264_25 := rfl
noncomputable def k_264_10 : List Instr := .aload 0 :: .getfield 780 :: .iconst 12 :: .iload 1 :: .iadd :: .iaload :: .ifCond .eq 25 :: .iconst (-2) :: .ireturn :: k_264_25
theorem fl_264_1 : m_fl (s_264.drop 1) = k_264_10 := (show m_fl (s_264.drop 1) = [.aload 0, .getfield 780, .iconst 12, .iload 1, .iadd, .iaload, .ifCond .eq 25, .iconst (-2), .ireturn] ++ m_fl (s_264.drop 2) from rfl).trans (by rw [fl_264_2]; rfl)
noncomputable def k_264_0 : List Instr := .aload 0 :: .iload 1 :: .invokevirtual 241 :: .ifCond .eq 10 :: .iconst 0 :: .ireturn :: k_264_10
theorem fl_264_0 : m_fl (s_264.drop 0) = k_264_0 := (show m_fl (s_264.drop 0) = [.aload 0, .iload 1, .invokevirtual 241, .ifCond .eq 10, .iconst 0, .ireturn] ++ m_fl (s_264.drop 1) from rfl).trans (by rw [fl_264_1]; rfl)
theorem tn_264_0 {L : Nat} {xs : Nat → Int32} : m_tg (p_P L xs) 264 0 = k_264_0 := (show m_tgl s_264 0 = m_fl (s_264.drop 0) from rfl).trans fl_264_0
theorem tg_264_10 {L : Nat} {xs : Nat → Int32} : m_tg (p_P L xs) 264 10 = k_264_10 := (show m_tgl s_264 10 = m_fl (s_264.drop 1) from rfl).trans fl_264_1
theorem tg_264_25 {L : Nat} {xs : Nat → Int32} : m_tg (p_P L xs) 264 25 = k_264_25 := (show m_tgl s_264 25 = m_fl (s_264.drop 2) from rfl).trans fl_264_2
noncomputable def k_265_41 : List Instr := .aload 0 :: .invokevirtual 260 :: .aload 0 :: .aload 0 :: .getfield 780 :: .iload 1 :: .invokevirtual 218 :: .aload 0 :: .getfield 780 :: .iload 1 :: .invokestatic 220 :: .aload 0 :: .getfield 780 :: .iconst 12 :: .iload 1 :: .iadd :: .iconst 1 :: .iastore :: .aload 0 :: .getfield 780 :: .iconst 16 :: .iload 1 :: .iadd :: .aload 0 :: .getfield 780 :: .iconst 0 :: .iaload :: .aload 0 :: .getfield 769 :: .iconst 8 :: .iaload :: .iadd :: .iastore :: .aload 0 :: .getfield 780 :: .iconst 16 :: .iload 1 :: .iadd :: .iaload :: .ireturn :: []
theorem fl_265_3 : m_fl (s_265.drop 3) = k_265_41 := rfl
noncomputable def k_265_25 : List Instr := .aload 0 :: .getfield 780 :: .iconst 32 :: .iload 1 :: .iadd :: .iaload :: .iconst (-1) :: .if_icmp .eq 41 :: .iconst (-3) :: .ireturn :: k_265_41
theorem fl_265_2 : m_fl (s_265.drop 2) = k_265_25 := (show m_fl (s_265.drop 2) = [.aload 0, .getfield 780, .iconst 32, .iload 1, .iadd, .iaload, .iconst (-1), .if_icmp .eq 41, .iconst (-3), .ireturn] ++ m_fl (s_265.drop 3) from rfl).trans (by rw [fl_265_3]; rfl)
noncomputable def k_265_10 : List Instr := .aload 0 :: .getfield 780 :: .iconst 12 :: .iload 1 :: .iadd :: .iaload :: .ifCond .eq 25 :: .iconst (-2) :: .ireturn :: k_265_25
theorem fl_265_1 : m_fl (s_265.drop 1) = k_265_10 := (show m_fl (s_265.drop 1) = [.aload 0, .getfield 780, .iconst 12, .iload 1, .iadd, .iaload, .ifCond .eq 25, .iconst (-2), .ireturn] ++ m_fl (s_265.drop 2) from rfl).trans (by rw [fl_265_2]; rfl)
noncomputable def k_265_0 : List Instr := .aload 0 :: .iload 1 :: .invokevirtual 241 :: .ifCond .eq 10 :: .iconst 0 :: .ireturn :: k_265_10
theorem fl_265_0 : m_fl (s_265.drop 0) = k_265_0 := (show m_fl (s_265.drop 0) = [.aload 0, .iload 1, .invokevirtual 241, .ifCond .eq 10, .iconst 0, .ireturn] ++ m_fl (s_265.drop 1) from rfl).trans (by rw [fl_265_1]; rfl)
theorem tn_265_0 {L : Nat} {xs : Nat → Int32} : m_tg (p_P L xs) 265 0 = k_265_0 := (show m_tgl s_265 0 = m_fl (s_265.drop 0) from rfl).trans fl_265_0
theorem tg_265_10 {L : Nat} {xs : Nat → Int32} : m_tg (p_P L xs) 265 10 = k_265_10 := (show m_tgl s_265 10 = m_fl (s_265.drop 1) from rfl).trans fl_265_1
theorem tg_265_25 {L : Nat} {xs : Nat → Int32} : m_tg (p_P L xs) 265 25 = k_265_25 := (show m_tgl s_265 25 = m_fl (s_265.drop 2) from rfl).trans fl_265_2
theorem tg_265_41 {L : Nat} {xs : Nat → Int32} : m_tg (p_P L xs) 265 41 = k_265_41 := (show m_tgl s_265 41 = m_fl (s_265.drop 3) from rfl).trans fl_265_3
noncomputable def k_266_25 : List Instr := .aload 0 :: .invokevirtual 260 :: .aload 0 :: .getfield 780 :: .iconst 44 :: .iload 1 :: .iadd :: .iaload :: .istore 2 :: .aload 0 :: .aload 0 :: .getfield 780 :: .iload 1 :: .invokevirtual 218 :: .iload 2 :: .ireturn :: []
theorem fl_266_2 : m_fl (s_266.drop 2) = k_266_25 := rfl
noncomputable def k_266_10 : List Instr := .aload 0 :: .getfield 780 :: .iconst 12 :: .iload 1 :: .iadd :: .iaload :: .ifCond .eq 25 :: .iconst (-2) :: .ireturn :: k_266_25
theorem fl_266_1 : m_fl (s_266.drop 1) = k_266_10 := (show m_fl (s_266.drop 1) = [.aload 0, .getfield 780, .iconst 12, .iload 1, .iadd, .iaload, .ifCond .eq 25, .iconst (-2), .ireturn] ++ m_fl (s_266.drop 2) from rfl).trans (by rw [fl_266_2]; rfl)
noncomputable def k_266_0 : List Instr := .aload 0 :: .iload 1 :: .invokevirtual 241 :: .ifCond .eq 10 :: .iconst 0 :: .ireturn :: k_266_10
theorem fl_266_0 : m_fl (s_266.drop 0) = k_266_0 := (show m_fl (s_266.drop 0) = [.aload 0, .iload 1, .invokevirtual 241, .ifCond .eq 10, .iconst 0, .ireturn] ++ m_fl (s_266.drop 1) from rfl).trans (by rw [fl_266_1]; rfl)
theorem tn_266_0 {L : Nat} {xs : Nat → Int32} : m_tg (p_P L xs) 266 0 = k_266_0 := (show m_tgl s_266 0 = m_fl (s_266.drop 0) from rfl).trans fl_266_0
theorem tg_266_10 {L : Nat} {xs : Nat → Int32} : m_tg (p_P L xs) 266 10 = k_266_10 := (show m_tgl s_266 10 = m_fl (s_266.drop 1) from rfl).trans fl_266_1
theorem tg_266_25 {L : Nat} {xs : Nat → Int32} : m_tg (p_P L xs) 266 25 = k_266_25 := (show m_tgl s_266 25 = m_fl (s_266.drop 2) from rfl).trans fl_266_2
noncomputable def k_267_44 : List Instr := .aload 0 :: .invokevirtual 260 :: .aload 0 :: .getfield 780 :: .iconst 48 :: .iconst 8 :: .iload 1 :: .imul :: .iadd :: .iload 2 :: .iadd :: .iaload :: .istore 4 :: .aload 0 :: .getfield 780 :: .iconst 48 :: .iconst 8 :: .iload 1 :: .imul :: .iadd :: .iload 2 :: .iadd :: .iload 3 :: .iastore :: .iload 4 :: .ireturn :: []
theorem fl_267_2 : m_fl (s_267.drop 2) = k_267_44 := rfl
noncomputable def k_267_42 : List Instr := .iconst 0 :: .ireturn :: k_267_44
theorem fl_267_1 : m_fl (s_267.drop 1) = k_267_42 := (show m_fl (s_267.drop 1) = [.iconst 0, .ireturn] ++ m_fl (s_267.drop 2) from rfl).trans (by rw [fl_267_2]; rfl)
noncomputable def k_267_0 : List Instr := .aload 0 :: .iload 1 :: .invokevirtual 241 :: .ifCond .ne 42 :: .aload 0 :: .iload 2 :: .i2l :: .ldc2_w 0 :: .ldc2_w 7 :: .invokestatic 153 :: .iconst 1 :: .invokevirtual 154 :: .ifCond .ne 42 :: .aload 0 :: .iload 3 :: .i2l :: .ldc2_w 0 :: .ldc2_w 65535 :: .invokestatic 153 :: .iconst 2 :: .invokevirtual 154 :: .ifCond .eq 44 :: k_267_42
theorem fl_267_0 : m_fl (s_267.drop 0) = k_267_0 := (show m_fl (s_267.drop 0) = [.aload 0, .iload 1, .invokevirtual 241, .ifCond .ne 42, .aload 0, .iload 2, .i2l, .ldc2_w 0, .ldc2_w 7, .invokestatic 153, .iconst 1, .invokevirtual 154, .ifCond .ne 42, .aload 0, .iload 3, .i2l, .ldc2_w 0, .ldc2_w 65535, .invokestatic 153, .iconst 2, .invokevirtual 154, .ifCond .eq 44] ++ m_fl (s_267.drop 1) from rfl).trans (by rw [fl_267_1]; rfl)
theorem tn_267_0 {L : Nat} {xs : Nat → Int32} : m_tg (p_P L xs) 267 0 = k_267_0 := (show m_tgl s_267 0 = m_fl (s_267.drop 0) from rfl).trans fl_267_0
theorem tg_267_42 {L : Nat} {xs : Nat → Int32} : m_tg (p_P L xs) 267 42 = k_267_42 := (show m_tgl s_267 42 = m_fl (s_267.drop 1) from rfl).trans fl_267_1
theorem tg_267_44 {L : Nat} {xs : Nat → Int32} : m_tg (p_P L xs) 267 44 = k_267_44 := (show m_tgl s_267 44 = m_fl (s_267.drop 2) from rfl).trans fl_267_2
noncomputable def k_268_72 : List Instr := .aload 0 :: .getfield 780 :: .iconst 5 :: .iaload :: .iload 2 :: .isub :: .ireturn :: []
theorem fl_268_4 : m_fl (s_268.drop 4) = k_268_72 := rfl
noncomputable def k_268_53 : List Instr := .iload 3 :: .iload 1 :: .if_icmp .ge 72 :: .aload 0 :: .aload 0 :: .getfield 780 :: .invokevirtual 231 :: .iinc 3 1 :: .goto 53 :: k_268_72
theorem fl_268_3 : m_fl (s_268.drop 3) = k_268_53 := (show m_fl (s_268.drop 3) = [.iload 3, .iload 1, .if_icmp .ge 72, .aload 0, .aload 0, .getfield 780, .invokevirtual 231, .iinc 3 1, .goto 53] ++ m_fl (s_268.drop 4) from rfl).trans (by rw [fl_268_4]; rfl)
noncomputable def k_268_40 : List Instr := .aload 0 :: .invokevirtual 260 :: .aload 0 :: .getfield 780 :: .iconst 5 :: .iaload :: .istore 2 :: .iconst 0 :: .istore 3 :: k_268_53
theorem fl_268_2 : m_fl (s_268.drop 2) = k_268_40 := (show m_fl (s_268.drop 2) = [.aload 0, .invokevirtual 260, .aload 0, .getfield 780, .iconst 5, .iaload, .istore 2, .iconst 0, .istore 3] ++ m_fl (s_268.drop 3) from rfl).trans (by rw [fl_268_3]; rfl)
noncomputable def k_268_24 : List Instr := .aload 0 :: .getfield 780 :: .iconst 0 :: .iaload :: .iload 1 :: .iadd :: .iconst (1000000) :: .if_icmp .le 40 :: .iconst (-4) :: .ireturn :: k_268_40
theorem fl_268_1 : m_fl (s_268.drop 1) = k_268_24 := (show m_fl (s_268.drop 1) = [.aload 0, .getfield 780, .iconst 0, .iaload, .iload 1, .iadd, .iconst (1000000), .if_icmp .le 40, .iconst (-4), .ireturn] ++ m_fl (s_268.drop 2) from rfl).trans (by rw [fl_268_2]; rfl)
noncomputable def k_268_0 : List Instr := .aload 0 :: .iconst 0 :: .putfield 768 :: .aload 0 :: .iload 1 :: .i2l :: .ldc2_w 0 :: .ldc2_w 1000 :: .invokestatic 153 :: .iconst 1 :: .invokevirtual 154 :: .ifCond .eq 24 :: .iconst 0 :: .ireturn :: k_268_24
theorem fl_268_0 : m_fl (s_268.drop 0) = k_268_0 := (show m_fl (s_268.drop 0) = [.aload 0, .iconst 0, .putfield 768, .aload 0, .iload 1, .i2l, .ldc2_w 0, .ldc2_w 1000, .invokestatic 153, .iconst 1, .invokevirtual 154, .ifCond .eq 24, .iconst 0, .ireturn] ++ m_fl (s_268.drop 1) from rfl).trans (by rw [fl_268_1]; rfl)
theorem tn_268_0 {L : Nat} {xs : Nat → Int32} : m_tg (p_P L xs) 268 0 = k_268_0 := (show m_tgl s_268 0 = m_fl (s_268.drop 0) from rfl).trans fl_268_0
theorem tg_268_24 {L : Nat} {xs : Nat → Int32} : m_tg (p_P L xs) 268 24 = k_268_24 := (show m_tgl s_268 24 = m_fl (s_268.drop 1) from rfl).trans fl_268_1
theorem tg_268_40 {L : Nat} {xs : Nat → Int32} : m_tg (p_P L xs) 268 40 = k_268_40 := (show m_tgl s_268 40 = m_fl (s_268.drop 2) from rfl).trans fl_268_2
theorem tg_268_53 {L : Nat} {xs : Nat → Int32} : m_tg (p_P L xs) 268 53 = k_268_53 := (show m_tgl s_268 53 = m_fl (s_268.drop 3) from rfl).trans fl_268_3
theorem tg_268_72 {L : Nat} {xs : Nat → Int32} : m_tg (p_P L xs) 268 72 = k_268_72 := (show m_tgl s_268 72 = m_fl (s_268.drop 4) from rfl).trans fl_268_4
noncomputable def k_269_0 : List Instr := .aload 0 :: .iconst 0 :: .putfield 768 :: .aload 0 :: .getfield 785 :: .ireturn :: []
theorem fl_269_0 : m_fl (s_269.drop 0) = k_269_0 := rfl
theorem tn_269_0 {L : Nat} {xs : Nat → Int32} : m_tg (p_P L xs) 269 0 = k_269_0 := (show m_tgl s_269 0 = m_fl (s_269.drop 0) from rfl).trans fl_269_0
noncomputable def k_270_60 : List Instr := .aload 0 :: .getfield 785 :: .ireturn :: []
theorem fl_270_3 : m_fl (s_270.drop 3) = k_270_60 := rfl
noncomputable def k_270_26 : List Instr := .iload 1 :: .iconst 2392 :: .if_icmp .ge 60 :: .aload 0 :: .getfield 780 :: .iload 1 :: .aload 0 :: .getfield 783 :: .iconst 2392 :: .aload 0 :: .getfield 785 :: .imul :: .iload 1 :: .iadd :: .iaload :: .iastore :: .iinc 1 1 :: .goto 26 :: k_270_60
theorem fl_270_2 : m_fl (s_270.drop 2) = k_270_26 := (show m_fl (s_270.drop 2) = [.iload 1, .iconst 2392, .if_icmp .ge 60, .aload 0, .getfield 780, .iload 1, .aload 0, .getfield 783, .iconst 2392, .aload 0, .getfield 785, .imul, .iload 1, .iadd, .iaload, .iastore, .iinc 1 1, .goto 26] ++ m_fl (s_270.drop 3) from rfl).trans (by rw [fl_270_3]; rfl)
noncomputable def k_270_14 : List Instr := .aload 0 :: .dup :: .getfield 785 :: .iconst 1 :: .isub :: .putfield 785 :: .iconst 0 :: .istore 1 :: k_270_26
theorem fl_270_1 : m_fl (s_270.drop 1) = k_270_14 := (show m_fl (s_270.drop 1) = [.aload 0, .dup, .getfield 785, .iconst 1, .isub, .putfield 785, .iconst 0, .istore 1] ++ m_fl (s_270.drop 2) from rfl).trans (by rw [fl_270_2]; rfl)
noncomputable def k_270_0 : List Instr := .aload 0 :: .iconst 0 :: .putfield 768 :: .aload 0 :: .getfield 785 :: .ifCond .ne 14 :: .iconst (-1) :: .ireturn :: k_270_14
theorem fl_270_0 : m_fl (s_270.drop 0) = k_270_0 := (show m_fl (s_270.drop 0) = [.aload 0, .iconst 0, .putfield 768, .aload 0, .getfield 785, .ifCond .ne 14, .iconst (-1), .ireturn] ++ m_fl (s_270.drop 1) from rfl).trans (by rw [fl_270_1]; rfl)
theorem tn_270_0 {L : Nat} {xs : Nat → Int32} : m_tg (p_P L xs) 270 0 = k_270_0 := (show m_tgl s_270 0 = m_fl (s_270.drop 0) from rfl).trans fl_270_0
theorem tg_270_14 {L : Nat} {xs : Nat → Int32} : m_tg (p_P L xs) 270 14 = k_270_14 := (show m_tgl s_270 14 = m_fl (s_270.drop 1) from rfl).trans fl_270_1
theorem tg_270_26 {L : Nat} {xs : Nat → Int32} : m_tg (p_P L xs) 270 26 = k_270_26 := (show m_tgl s_270 26 = m_fl (s_270.drop 2) from rfl).trans fl_270_2
theorem tg_270_60 {L : Nat} {xs : Nat → Int32} : m_tg (p_P L xs) 270 60 = k_270_60 := (show m_tgl s_270 60 = m_fl (s_270.drop 3) from rfl).trans fl_270_3
noncomputable def k_271_0 : List Instr := .aload 0 :: .iconst 0 :: .putfield 768 :: .aload 0 :: .getfield 780 :: .aload 0 :: .getfield 782 :: .invokestatic 159 :: .aload 0 :: .iconst 1 :: .putfield 784 :: .return_ :: []
theorem fl_271_0 : m_fl (s_271.drop 0) = k_271_0 := rfl
theorem tn_271_0 {L : Nat} {xs : Nat → Int32} : m_tg (p_P L xs) 271 0 = k_271_0 := (show m_tgl s_271 0 = m_fl (s_271.drop 0) from rfl).trans fl_271_0
noncomputable def k_272_14 : List Instr := .aload 0 :: .getfield 782 :: .aload 0 :: .getfield 780 :: .invokestatic 159 :: .aload 0 :: .iconst 0 :: .putfield 785 :: .iconst 1 :: .ret 0 :: []
theorem fl_272_1 : m_fl (s_272.drop 1) = k_272_14 := rfl
noncomputable def k_272_0 : List Instr := .aload 0 :: .iconst 0 :: .putfield 768 :: .aload 0 :: .getfield 784 :: .ifCond .ne 14 :: .iconst 0 :: .ret 0 :: k_272_14
theorem fl_272_0 : m_fl (s_272.drop 0) = k_272_0 := (show m_fl (s_272.drop 0) = [.aload 0, .iconst 0, .putfield 768, .aload 0, .getfield 784, .ifCond .ne 14, .iconst 0, .ret 0] ++ m_fl (s_272.drop 1) from rfl).trans (by rw [fl_272_1]; rfl)
theorem tn_272_0 {L : Nat} {xs : Nat → Int32} : m_tg (p_P L xs) 272 0 = k_272_0 := (show m_tgl s_272 0 = m_fl (s_272.drop 0) from rfl).trans fl_272_0
theorem tg_272_14 {L : Nat} {xs : Nat → Int32} : m_tg (p_P L xs) 272 14 = k_272_14 := (show m_tgl s_272 14 = m_fl (s_272.drop 1) from rfl).trans fl_272_1
noncomputable def k_273_71 : List Instr := .iload 2 :: .ireturn :: []
theorem fl_273_5 : m_fl (s_273.drop 5) = k_273_71 := rfl
noncomputable def k_273_57 : List Instr := .aload 0 :: .aload 0 :: .getfield 781 :: .invokevirtual 231 :: .iinc 2 1 :: .goto 23 :: k_273_71
theorem fl_273_4 : m_fl (s_273.drop 4) = k_273_57 := (show m_fl (s_273.drop 4) = [.aload 0, .aload 0, .getfield 781, .invokevirtual 231, .iinc 2 1, .goto 23] ++ m_fl (s_273.drop 5) from rfl).trans (by rw [fl_273_5]; rfl)
noncomputable def k_273_55 : List Instr := .iconst (-1) :: .ireturn :: k_273_57
theorem fl_273_3 : m_fl (s_273.drop 3) = k_273_55 := (show m_fl (s_273.drop 3) = [.iconst (-1), .ireturn] ++ m_fl (s_273.drop 4) from rfl).trans (by rw [fl_273_4]; rfl)
noncomputable def k_273_23 : List Instr := .aload 0 :: .getfield 781 :: .iload 1 :: .iconst 6 :: .invokestatic 211 :: .iconst 2 :: .if_icmp .ge 71 :: .iload 2 :: .iconst 1000 :: .if_icmp .eq 55 :: .aload 0 :: .getfield 781 :: .iconst 0 :: .iaload :: .iconst (1000000) :: .if_icmp .ne 57 :: k_273_55
theorem fl_273_2 : m_fl (s_273.drop 2) = k_273_23 := (show m_fl (s_273.drop 2) = [.aload 0, .getfield 781, .iload 1, .iconst 6, .invokestatic 211, .iconst 2, .if_icmp .ge 71, .iload 2, .iconst 1000, .if_icmp .eq 55, .aload 0, .getfield 781, .iconst 0, .iaload, .iconst (1000000), .if_icmp .ne 57] ++ m_fl (s_273.drop 3) from rfl).trans (by rw [fl_273_3]; rfl)
noncomputable def k_273_10 : List Instr := .aload 0 :: .getfield 780 :: .aload 0 :: .getfield 781 :: .invokestatic 159 :: .iconst 0 :: .istore 2 :: k_273_23
theorem fl_273_1 : m_fl (s_273.drop 1) = k_273_10 := (show m_fl (s_273.drop 1) = [.aload 0, .getfield 780, .aload 0, .getfield 781, .invokestatic 159, .iconst 0, .istore 2] ++ m_fl (s_273.drop 2) from rfl).trans (by rw [fl_273_2]; rfl)
noncomputable def k_273_0 : List Instr := .aload 0 :: .iload 1 :: .invokevirtual 253 :: .ifCond .eq 10 :: .iconst 0 :: .ireturn :: k_273_10
theorem fl_273_0 : m_fl (s_273.drop 0) = k_273_0 := (show m_fl (s_273.drop 0) = [.aload 0, .iload 1, .invokevirtual 253, .ifCond .eq 10, .iconst 0, .ireturn] ++ m_fl (s_273.drop 1) from rfl).trans (by rw [fl_273_1]; rfl)
theorem tn_273_0 {L : Nat} {xs : Nat → Int32} : m_tg (p_P L xs) 273 0 = k_273_0 := (show m_tgl s_273 0 = m_fl (s_273.drop 0) from rfl).trans fl_273_0
theorem tg_273_10 {L : Nat} {xs : Nat → Int32} : m_tg (p_P L xs) 273 10 = k_273_10 := (show m_tgl s_273 10 = m_fl (s_273.drop 1) from rfl).trans fl_273_1
theorem tg_273_23 {L : Nat} {xs : Nat → Int32} : m_tg (p_P L xs) 273 23 = k_273_23 := (show m_tgl s_273 23 = m_fl (s_273.drop 2) from rfl).trans fl_273_2
theorem tg_273_55 {L : Nat} {xs : Nat → Int32} : m_tg (p_P L xs) 273 55 = k_273_55 := (show m_tgl s_273 55 = m_fl (s_273.drop 3) from rfl).trans fl_273_3
theorem tg_273_57 {L : Nat} {xs : Nat → Int32} : m_tg (p_P L xs) 273 57 = k_273_57 := (show m_tgl s_273 57 = m_fl (s_273.drop 4) from rfl).trans fl_273_4
theorem tg_273_71 {L : Nat} {xs : Nat → Int32} : m_tg (p_P L xs) 273 71 = k_273_71 := (show m_tgl s_273 71 = m_fl (s_273.drop 5) from rfl).trans fl_273_5
noncomputable def k_274_151 : List Instr := .aload 0 :: .getfield 769 :: .iconst 2 :: .iload 2 :: .iastore :: .iload 3 :: .ireturn :: []
theorem fl_274_9 : m_fl (s_274.drop 9) = k_274_151 := rfl
noncomputable def k_274_145 : List Instr := .iinc 5 1 :: .goto 60 :: k_274_151
theorem fl_274_8 : m_fl (s_274.drop 8) = k_274_145 := (show m_fl (s_274.drop 8) = [.iinc 5 1, .goto 60] ++ m_fl (s_274.drop 9) from rfl).trans (by rw [fl_274_9]; rfl)
noncomputable def k_274_134 : List Instr := .aload 0 :: .getfield 781 :: .iconst 5 :: .iaload :: .istore 4 :: .iload 5 :: .istore 3 :: k_274_145
theorem fl_274_7 : m_fl (s_274.drop 7) = k_274_134 := (show m_fl (s_274.drop 7) = [.aload 0, .getfield 781, .iconst 5, .iaload, .istore 4, .iload 5, .istore 3] ++ m_fl (s_274.drop 8) from rfl).trans (by rw [fl_274_8]; rfl)
noncomputable def k_274_120 : List Instr := .aload 0 :: .getfield 781 :: .iconst 5 :: .iaload :: .iload 4 :: .if_icmp .gt 134 :: .goto 145 :: k_274_134
theorem fl_274_6 : m_fl (s_274.drop 6) = k_274_120 := (show m_fl (s_274.drop 6) = [.aload 0, .getfield 781, .iconst 5, .iaload, .iload 4, .if_icmp .gt 134, .goto 145] ++ m_fl (s_274.drop 7) from rfl).trans (by rw [fl_274_7]; rfl)
noncomputable def k_274_100 : List Instr := .iload 6 :: .iload 1 :: .if_icmp .ge 120 :: .aload 0 :: .aload 0 :: .getfield 781 :: .invokevirtual 231 :: .iinc 6 1 :: .goto 100 :: k_274_120
theorem fl_274_5 : m_fl (s_274.drop 5) = k_274_100 := (show m_fl (s_274.drop 5) = [.iload 6, .iload 1, .if_icmp .ge 120, .aload 0, .aload 0, .getfield 781, .invokevirtual 231, .iinc 6 1, .goto 100] ++ m_fl (s_274.drop 6) from rfl).trans (by rw [fl_274_6]; rfl)
noncomputable def k_274_60 : List Instr := .iload 5 :: .iconst 16 :: .if_icmp .gt 151 :: .iload 5 :: .aload 0 :: .getfield 769 :: .iconst 3 :: .iaload :: .if_icmp .gt 151 :: .aload 0 :: .getfield 780 :: .aload 0 :: .getfield 781 :: .invokestatic 159 :: .aload 0 :: .getfield 769 :: .iconst 2 :: .iload 5 :: .iastore :: .iconst 0 :: .istore 6 :: k_274_100
theorem fl_274_4 : m_fl (s_274.drop 4) = k_274_60 := (show m_fl (s_274.drop 4) = [.iload 5, .iconst 16, .if_icmp .gt 151, .iload 5, .aload 0, .getfield 769, .iconst 3, .iaload, .if_icmp .gt 151, .aload 0, .getfield 780, .aload 0, .getfield 781, .invokestatic 159, .aload 0, .getfield 769, .iconst 2, .iload 5, .iastore, .iconst 0, .istore 6] ++ m_fl (s_274.drop 5) from rfl).trans (by rw [fl_274_5]; rfl)
noncomputable def k_274_45 : List Instr := .aload 0 :: .getfield 769 :: .iconst 2 :: .iaload :: .istore 2 :: .iconst (-1) :: .istore 3 :: .iconst (-1) :: .istore 4 :: .iconst 1 :: .istore 5 :: k_274_60
theorem fl_274_3 : m_fl (s_274.drop 3) = k_274_45 := (show m_fl (s_274.drop 3) = [.aload 0, .getfield 769, .iconst 2, .iaload, .istore 2, .iconst (-1), .istore 3, .iconst (-1), .istore 4, .iconst 1, .istore 5] ++ m_fl (s_274.drop 4) from rfl).trans (by rw [fl_274_4]; rfl)
noncomputable def k_274_36 : List Instr := .iconst 1 :: .invokevirtual 154 :: .ifCond .eq 45 :: .iconst 0 :: .ireturn :: k_274_45
theorem fl_274_2 : m_fl (s_274.drop 2) = k_274_36 := (show m_fl (s_274.drop 2) = [.iconst 1, .invokevirtual 154, .ifCond .eq 45, .iconst 0, .ireturn] ++ m_fl (s_274.drop 3) from rfl).trans (by rw [fl_274_3]; rfl)
noncomputable def k_274_35 : List Instr := .iconst 0 :: k_274_36
theorem fl_274_1 : m_fl (s_274.drop 1) = k_274_35 := (show m_fl (s_274.drop 1) = [.iconst 0] ++ m_fl (s_274.drop 2) from rfl).trans (by rw [fl_274_2]; rfl)
noncomputable def k_274_0 : List Instr := .aload 0 :: .iconst 0 :: .putfield 768 :: .aload 0 :: .iload 1 :: .i2l :: .ldc2_w 0 :: .ldc2_w 200 :: .invokestatic 153 :: .ifCond .eq 35 :: .aload 0 :: .getfield 780 :: .iconst 0 :: .iaload :: .iload 1 :: .iadd :: .iconst (1000000) :: .if_icmp .gt 35 :: .iconst 1 :: .goto 36 :: k_274_35
theorem fl_274_0 : m_fl (s_274.drop 0) = k_274_0 := (show m_fl (s_274.drop 0) = [.aload 0, .iconst 0, .putfield 768, .aload 0, .iload 1, .i2l, .ldc2_w 0, .ldc2_w 200, .invokestatic 153, .ifCond .eq 35, .aload 0, .getfield 780, .iconst 0, .iaload, .iload 1, .iadd, .iconst (1000000), .if_icmp .gt 35, .iconst 1, .goto 36] ++ m_fl (s_274.drop 1) from rfl).trans (by rw [fl_274_1]; rfl)
theorem tn_274_0 {L : Nat} {xs : Nat → Int32} : m_tg (p_P L xs) 274 0 = k_274_0 := (show m_tgl s_274 0 = m_fl (s_274.drop 0) from rfl).trans fl_274_0
theorem tg_274_35 {L : Nat} {xs : Nat → Int32} : m_tg (p_P L xs) 274 35 = k_274_35 := (show m_tgl s_274 35 = m_fl (s_274.drop 1) from rfl).trans fl_274_1
theorem tg_274_36 {L : Nat} {xs : Nat → Int32} : m_tg (p_P L xs) 274 36 = k_274_36 := (show m_tgl s_274 36 = m_fl (s_274.drop 2) from rfl).trans fl_274_2
theorem tg_274_45 {L : Nat} {xs : Nat → Int32} : m_tg (p_P L xs) 274 45 = k_274_45 := (show m_tgl s_274 45 = m_fl (s_274.drop 3) from rfl).trans fl_274_3
theorem tg_274_60 {L : Nat} {xs : Nat → Int32} : m_tg (p_P L xs) 274 60 = k_274_60 := (show m_tgl s_274 60 = m_fl (s_274.drop 4) from rfl).trans fl_274_4
theorem tg_274_100 {L : Nat} {xs : Nat → Int32} : m_tg (p_P L xs) 274 100 = k_274_100 := (show m_tgl s_274 100 = m_fl (s_274.drop 5) from rfl).trans fl_274_5
theorem tg_274_120 {L : Nat} {xs : Nat → Int32} : m_tg (p_P L xs) 274 120 = k_274_120 := (show m_tgl s_274 120 = m_fl (s_274.drop 6) from rfl).trans fl_274_6
theorem tg_274_134 {L : Nat} {xs : Nat → Int32} : m_tg (p_P L xs) 274 134 = k_274_134 := (show m_tgl s_274 134 = m_fl (s_274.drop 7) from rfl).trans fl_274_7
theorem tg_274_145 {L : Nat} {xs : Nat → Int32} : m_tg (p_P L xs) 274 145 = k_274_145 := (show m_tgl s_274 145 = m_fl (s_274.drop 8) from rfl).trans fl_274_8
theorem tg_274_151 {L : Nat} {xs : Nat → Int32} : m_tg (p_P L xs) 274 151 = k_274_151 := (show m_tgl s_274 151 = m_fl (s_274.drop 9) from rfl).trans fl_274_9
noncomputable def k_275_74 : List Instr := .ireturn :: []
theorem fl_275_6 : m_fl (s_275.drop 6) = k_275_74 := rfl
noncomputable def k_275_73 : List Instr := .iconst 0 :: k_275_74
theorem fl_275_5 : m_fl (s_275.drop 5) = k_275_73 := (show m_fl (s_275.drop 5) = [.iconst 0] ++ m_fl (s_275.drop 6) from rfl).trans (by rw [fl_275_6]; rfl)
noncomputable def k_275_57 : List Instr := .aload 0 :: .aload 0 :: .getfield 780 :: .iload 1 :: .invokevirtual 213 :: .ifCond .eq 73 :: .iconst 1 :: .goto 74 :: k_275_73
theorem fl_275_4 : m_fl (s_275.drop 4) = k_275_57 := (show m_fl (s_275.drop 4) = [.aload 0, .aload 0, .getfield 780, .iload 1, .invokevirtual 213, .ifCond .eq 73, .iconst 1, .goto 74] ++ m_fl (s_275.drop 5) from rfl).trans (by rw [fl_275_5]; rfl)
noncomputable def k_275_48 : List Instr := .iload 2 :: .iconst 2 :: .if_icmp .ne 57 :: .iconst 2 :: .goto 74 :: k_275_57
theorem fl_275_3 : m_fl (s_275.drop 3) = k_275_48 := (show m_fl (s_275.drop 3) = [.iload 2, .iconst 2, .if_icmp .ne 57, .iconst 2, .goto 74] ++ m_fl (s_275.drop 4) from rfl).trans (by rw [fl_275_4]; rfl)
noncomputable def k_275_26 : List Instr := .aload 0 :: .getfield 770 :: .aload 0 :: .getfield 780 :: .iload 1 :: .iconst 1 :: .invokestatic 211 :: .iaload :: .istore 2 :: .iload 2 :: .iconst 2 :: .if_icmp .ge 48 :: .iconst 0 :: .ireturn :: k_275_48
theorem fl_275_2 : m_fl (s_275.drop 2) = k_275_26 := (show m_fl (s_275.drop 2) = [.aload 0, .getfield 770, .aload 0, .getfield 780, .iload 1, .iconst 1, .invokestatic 211, .iaload, .istore 2, .iload 2, .iconst 2, .if_icmp .ge 48, .iconst 0, .ireturn] ++ m_fl (s_275.drop 3) from rfl).trans (by rw [fl_275_3]; rfl)
noncomputable def k_275_10 : List Instr := .aload 0 :: .getfield 780 :: .iload 1 :: .iconst 6 :: .invokestatic 211 :: .iconst 1 :: .if_icmp .eq 26 :: .iconst (-1) :: .ireturn :: k_275_26
theorem fl_275_1 : m_fl (s_275.drop 1) = k_275_10 := (show m_fl (s_275.drop 1) = [.aload 0, .getfield 780, .iload 1, .iconst 6, .invokestatic 211, .iconst 1, .if_icmp .eq 26, .iconst (-1), .ireturn] ++ m_fl (s_275.drop 2) from rfl).trans (by rw [fl_275_2]; rfl)
noncomputable def k_275_0 : List Instr := .aload 0 :: .iload 1 :: .invokevirtual 253 :: .ifCond .eq 10 :: .iconst 0 :: .ireturn :: k_275_10
theorem fl_275_0 : m_fl (s_275.drop 0) = k_275_0 := (show m_fl (s_275.drop 0) = [.aload 0, .iload 1, .invokevirtual 253, .ifCond .eq 10, .iconst 0, .ireturn] ++ m_fl (s_275.drop 1) from rfl).trans (by rw [fl_275_1]; rfl)
theorem tn_275_0 {L : Nat} {xs : Nat → Int32} : m_tg (p_P L xs) 275 0 = k_275_0 := (show m_tgl s_275 0 = m_fl (s_275.drop 0) from rfl).trans fl_275_0
theorem tg_275_10 {L : Nat} {xs : Nat → Int32} : m_tg (p_P L xs) 275 10 = k_275_10 := (show m_tgl s_275 10 = m_fl (s_275.drop 1) from rfl).trans fl_275_1
theorem tg_275_26 {L : Nat} {xs : Nat → Int32} : m_tg (p_P L xs) 275 26 = k_275_26 := (show m_tgl s_275 26 = m_fl (s_275.drop 2) from rfl).trans fl_275_2
theorem tg_275_48 {L : Nat} {xs : Nat → Int32} : m_tg (p_P L xs) 275 48 = k_275_48 := (show m_tgl s_275 48 = m_fl (s_275.drop 3) from rfl).trans fl_275_3
theorem tg_275_57 {L : Nat} {xs : Nat → Int32} : m_tg (p_P L xs) 275 57 = k_275_57 := (show m_tgl s_275 57 = m_fl (s_275.drop 4) from rfl).trans fl_275_4
theorem tg_275_73 {L : Nat} {xs : Nat → Int32} : m_tg (p_P L xs) 275 73 = k_275_73 := (show m_tgl s_275 73 = m_fl (s_275.drop 5) from rfl).trans fl_275_5
theorem tg_275_74 {L : Nat} {xs : Nat → Int32} : m_tg (p_P L xs) 275 74 = k_275_74 := (show m_tgl s_275 74 = m_fl (s_275.drop 6) from rfl).trans fl_275_6
noncomputable def k_276_157 : List Instr := .aload 0 :: .getfield 780 :: .iload 2 :: .iconst 10 :: .invokestatic 211 :: .ireturn :: []
theorem fl_276_11 : m_fl (s_276.drop 11) = k_276_157 := rfl
noncomputable def k_276_146 : List Instr := .aload 0 :: .getfield 780 :: .iload 2 :: .iconst 9 :: .invokestatic 211 :: .ireturn :: k_276_157
theorem fl_276_10 : m_fl (s_276.drop 10) = k_276_146 := (show m_fl (s_276.drop 10) = [.aload 0, .getfield 780, .iload 2, .iconst 9, .invokestatic 211, .ireturn] ++ m_fl (s_276.drop 11) from rfl).trans (by rw [fl_276_11]; rfl)
noncomputable def k_276_135 : List Instr := .aload 0 :: .getfield 780 :: .iload 2 :: .iconst 8 :: .invokestatic 211 :: .ireturn :: k_276_146
theorem fl_276_9 : m_fl (s_276.drop 9) = k_276_135 := (show m_fl (s_276.drop 9) = [.aload 0, .getfield 780, .iload 2, .iconst 8, .invokestatic 211, .ireturn] ++ m_fl (s_276.drop 10) from rfl).trans (by rw [fl_276_10]; rfl)
noncomputable def k_276_124 : List Instr := .aload 0 :: .getfield 780 :: .iload 2 :: .iconst 7 :: .invokestatic 211 :: .ireturn :: k_276_135
theorem fl_276_8 : m_fl (s_276.drop 8) = k_276_124 := (show m_fl (s_276.drop 8) = [.aload 0, .getfield 780, .iload 2, .iconst 7, .invokestatic 211, .ireturn] ++ m_fl (s_276.drop 9) from rfl).trans (by rw [fl_276_9]; rfl)
noncomputable def k_276_113 : List Instr := .aload 0 :: .getfield 780 :: .iload 2 :: .iconst 6 :: .invokestatic 211 :: .ireturn :: k_276_124
theorem fl_276_7 : m_fl (s_276.drop 7) = k_276_113 := (show m_fl (s_276.drop 7) = [.aload 0, .getfield 780, .iload 2, .iconst 6, .invokestatic 211, .ireturn] ++ m_fl (s_276.drop 8) from rfl).trans (by rw [fl_276_8]; rfl)
noncomputable def k_276_103 : List Instr := .aload 0 :: .getfield 780 :: .iload 2 :: .iconst 3 :: .invokestatic 211 :: .ireturn :: k_276_113
theorem fl_276_6 : m_fl (s_276.drop 6) = k_276_103 := (show m_fl (s_276.drop 6) = [.aload 0, .getfield 780, .iload 2, .iconst 3, .invokestatic 211, .ireturn] ++ m_fl (s_276.drop 7) from rfl).trans (by rw [fl_276_7]; rfl)
noncomputable def k_276_93 : List Instr := .aload 0 :: .getfield 780 :: .iload 2 :: .iconst 2 :: .invokestatic 211 :: .ireturn :: k_276_103
theorem fl_276_5 : m_fl (s_276.drop 5) = k_276_93 := (show m_fl (s_276.drop 5) = [.aload 0, .getfield 780, .iload 2, .iconst 2, .invokestatic 211, .ireturn] ++ m_fl (s_276.drop 6) from rfl).trans (by rw [fl_276_6]; rfl)
noncomputable def k_276_78 : List Instr := .aload 0 :: .getfield 770 :: .aload 0 :: .getfield 780 :: .iload 2 :: .iconst 1 :: .invokestatic 211 :: .iaload :: .ireturn :: k_276_93
theorem fl_276_4 : m_fl (s_276.drop 4) = k_276_78 := (show m_fl (s_276.drop 4) = [.aload 0, .getfield 770, .aload 0, .getfield 780, .iload 2, .iconst 1, .invokestatic 211, .iaload, .ireturn] ++ m_fl (s_276.drop 5) from rfl).trans (by rw [fl_276_5]; rfl)
noncomputable def k_276_68 : List Instr := .aload 0 :: .getfield 780 :: .iload 2 :: .iconst 1 :: .invokestatic 211 :: .ireturn :: k_276_78
theorem fl_276_3 : m_fl (s_276.drop 3) = k_276_68 := (show m_fl (s_276.drop 3) = [.aload 0, .getfield 780, .iload 2, .iconst 1, .invokestatic 211, .ireturn] ++ m_fl (s_276.drop 4) from rfl).trans (by rw [fl_276_4]; rfl)
noncomputable def k_276_58 : List Instr := .aload 0 :: .getfield 780 :: .iload 2 :: .iconst 0 :: .invokestatic 211 :: .ireturn :: k_276_68
theorem fl_276_2 : m_fl (s_276.drop 2) = k_276_58 := (show m_fl (s_276.drop 2) = [.aload 0, .getfield 780, .iload 2, .iconst 0, .invokestatic 211, .ireturn] ++ m_fl (s_276.drop 3) from rfl).trans (by rw [fl_276_3]; rfl)
noncomputable def k_276_56 : List Instr := .iload 2 :: .ireturn :: k_276_58
theorem fl_276_1 : m_fl (s_276.drop 1) = k_276_56 := (show m_fl (s_276.drop 1) = [.iload 2, .ireturn] ++ m_fl (s_276.drop 2) from rfl).trans (by rw [fl_276_2]; rfl)
noncomputable def k_276_0 : List Instr := .iload 1 :: .tableswitch 157 0 9 #[56, 58, 68, 78, 93, 103, 113, 124, 135, 146] :: k_276_56
theorem fl_276_0 : m_fl (s_276.drop 0) = k_276_0 := (show m_fl (s_276.drop 0) = [.iload 1, .tableswitch 157 0 9 #[56, 58, 68, 78, 93, 103, 113, 124, 135, 146]] ++ m_fl (s_276.drop 1) from rfl).trans (by rw [fl_276_1]; rfl)
theorem tn_276_0 {L : Nat} {xs : Nat → Int32} : m_tg (p_P L xs) 276 0 = k_276_0 := (show m_tgl s_276 0 = m_fl (s_276.drop 0) from rfl).trans fl_276_0
theorem tg_276_56 {L : Nat} {xs : Nat → Int32} : m_tg (p_P L xs) 276 56 = k_276_56 := (show m_tgl s_276 56 = m_fl (s_276.drop 1) from rfl).trans fl_276_1
theorem tg_276_58 {L : Nat} {xs : Nat → Int32} : m_tg (p_P L xs) 276 58 = k_276_58 := (show m_tgl s_276 58 = m_fl (s_276.drop 2) from rfl).trans fl_276_2
theorem tg_276_68 {L : Nat} {xs : Nat → Int32} : m_tg (p_P L xs) 276 68 = k_276_68 := (show m_tgl s_276 68 = m_fl (s_276.drop 3) from rfl).trans fl_276_3
theorem tg_276_78 {L : Nat} {xs : Nat → Int32} : m_tg (p_P L xs) 276 78 = k_276_78 := (show m_tgl s_276 78 = m_fl (s_276.drop 4) from rfl).trans fl_276_4
theorem tg_276_93 {L : Nat} {xs : Nat → Int32} : m_tg (p_P L xs) 276 93 = k_276_93 := (show m_tgl s_276 93 = m_fl (s_276.drop 5) from rfl).trans fl_276_5
theorem tg_276_103 {L : Nat} {xs : Nat → Int32} : m_tg (p_P L xs) 276 103 = k_276_103 := (show m_tgl s_276 103 = m_fl (s_276.drop 6) from rfl).trans fl_276_6
theorem tg_276_113 {L : Nat} {xs : Nat → Int32} : m_tg (p_P L xs) 276 113 = k_276_113 := (show m_tgl s_276 113 = m_fl (s_276.drop 7) from rfl).trans fl_276_7
theorem tg_276_124 {L : Nat} {xs : Nat → Int32} : m_tg (p_P L xs) 276 124 = k_276_124 := (show m_tgl s_276 124 = m_fl (s_276.drop 8) from rfl).trans fl_276_8
theorem tg_276_135 {L : Nat} {xs : Nat → Int32} : m_tg (p_P L xs) 276 135 = k_276_135 := (show m_tgl s_276 135 = m_fl (s_276.drop 9) from rfl).trans fl_276_9
theorem tg_276_146 {L : Nat} {xs : Nat → Int32} : m_tg (p_P L xs) 276 146 = k_276_146 := (show m_tgl s_276 146 = m_fl (s_276.drop 10) from rfl).trans fl_276_10
theorem tg_276_157 {L : Nat} {xs : Nat → Int32} : m_tg (p_P L xs) 276 157 = k_276_157 := (show m_tgl s_276 157 = m_fl (s_276.drop 11) from rfl).trans fl_276_11
noncomputable def k_277_94 : List Instr := .ret 0 :: []
theorem fl_277_8 : m_fl (s_277.drop 8) = k_277_94 := rfl
noncomputable def k_277_93 : List Instr := .iconst 0 :: k_277_94
theorem fl_277_7 : m_fl (s_277.drop 7) = k_277_93 := (show m_fl (s_277.drop 7) = [.iconst 0] ++ m_fl (s_277.drop 8) from rfl).trans (by rw [fl_277_8]; rfl)
noncomputable def k_277_79 : List Instr := .aload 0 :: .getfield 797 :: .iconst 0 :: .iaload :: .iconst 1 :: .if_icmp .ne 93 :: .iconst 1 :: .goto 94 :: k_277_93
theorem fl_277_6 : m_fl (s_277.drop 6) = k_277_79 := (show m_fl (s_277.drop 6) = [.aload 0, .getfield 797, .iconst 0, .iaload, .iconst 1, .if_icmp .ne 93, .iconst 1, .goto 94] ++ m_fl (s_277.drop 7) from rfl).trans (by rw [fl_277_7]; rfl)
noncomputable def k_277_73 : List Instr := .iinc 2 1 :: .goto 7 :: k_277_79
theorem fl_277_5 : m_fl (s_277.drop 5) = k_277_73 := (show m_fl (s_277.drop 5) = [.iinc 2 1, .goto 7] ++ m_fl (s_277.drop 6) from rfl).trans (by rw [fl_277_6]; rfl)
noncomputable def k_277_62 : List Instr := .iastore :: .aload 0 :: .dup :: .getfield 804 :: .iconst 1 :: .iadd :: .putfield 804 :: k_277_73
theorem fl_277_4 : m_fl (s_277.drop 4) = k_277_62 := (show m_fl (s_277.drop 4) = [.iastore, .aload 0, .dup, .getfield 804, .iconst 1, .iadd, .putfield 804] ++ m_fl (s_277.drop 5) from rfl).trans (by rw [fl_277_5]; rfl)
noncomputable def k_277_56 : List Instr := .aload 0 :: .iload 3 :: .iload 1 :: .invokevirtual 276 :: k_277_62
theorem fl_277_3 : m_fl (s_277.drop 3) = k_277_56 := (show m_fl (s_277.drop 3) = [.aload 0, .iload 3, .iload 1, .invokevirtual 276] ++ m_fl (s_277.drop 4) from rfl).trans (by rw [fl_277_4]; rfl)
noncomputable def k_277_33 : List Instr := .aload 0 :: .getfield 797 :: .aload 0 :: .getfield 804 :: .iload 3 :: .iconst 1000 :: .if_icmp .lt 56 :: .iload 3 :: .iconst 1000 :: .isub :: .goto 62 :: k_277_56
theorem fl_277_2 : m_fl (s_277.drop 2) = k_277_33 := (show m_fl (s_277.drop 2) = [.aload 0, .getfield 797, .aload 0, .getfield 804, .iload 3, .iconst 1000, .if_icmp .lt 56, .iload 3, .iconst 1000, .isub, .goto 62] ++ m_fl (s_277.drop 3) from rfl).trans (by rw [fl_277_3]; rfl)
noncomputable def k_277_7 : List Instr := .iload 2 :: .aload 0 :: .getfield 799 :: .if_icmp .ge 79 :: .aload 0 :: .getfield 798 :: .iload 2 :: .iaload :: .istore 3 :: .aload 0 :: .iload 3 :: .invokevirtual 208 :: .ifCond .eq 33 :: .goto 73 :: k_277_33
theorem fl_277_1 : m_fl (s_277.drop 1) = k_277_7 := (show m_fl (s_277.drop 1) = [.iload 2, .aload 0, .getfield 799, .if_icmp .ge 79, .aload 0, .getfield 798, .iload 2, .iaload, .istore 3, .aload 0, .iload 3, .invokevirtual 208, .ifCond .eq 33, .goto 73] ++ m_fl (s_277.drop 2) from rfl).trans (by rw [fl_277_2]; rfl)
noncomputable def k_277_0 : List Instr := .aload 0 :: .iconst 0 :: .putfield 804 :: .iconst 0 :: .istore 2 :: k_277_7
theorem fl_277_0 : m_fl (s_277.drop 0) = k_277_0 := (show m_fl (s_277.drop 0) = [.aload 0, .iconst 0, .putfield 804, .iconst 0, .istore 2] ++ m_fl (s_277.drop 1) from rfl).trans (by rw [fl_277_1]; rfl)
theorem tn_277_0 {L : Nat} {xs : Nat → Int32} : m_tg (p_P L xs) 277 0 = k_277_0 := (show m_tgl s_277 0 = m_fl (s_277.drop 0) from rfl).trans fl_277_0
theorem tg_277_7 {L : Nat} {xs : Nat → Int32} : m_tg (p_P L xs) 277 7 = k_277_7 := (show m_tgl s_277 7 = m_fl (s_277.drop 1) from rfl).trans fl_277_1
theorem tg_277_33 {L : Nat} {xs : Nat → Int32} : m_tg (p_P L xs) 277 33 = k_277_33 := (show m_tgl s_277 33 = m_fl (s_277.drop 2) from rfl).trans fl_277_2
theorem tg_277_56 {L : Nat} {xs : Nat → Int32} : m_tg (p_P L xs) 277 56 = k_277_56 := (show m_tgl s_277 56 = m_fl (s_277.drop 3) from rfl).trans fl_277_3
theorem tg_277_62 {L : Nat} {xs : Nat → Int32} : m_tg (p_P L xs) 277 62 = k_277_62 := (show m_tgl s_277 62 = m_fl (s_277.drop 4) from rfl).trans fl_277_4
theorem tg_277_73 {L : Nat} {xs : Nat → Int32} : m_tg (p_P L xs) 277 73 = k_277_73 := (show m_tgl s_277 73 = m_fl (s_277.drop 5) from rfl).trans fl_277_5
theorem tg_277_79 {L : Nat} {xs : Nat → Int32} : m_tg (p_P L xs) 277 79 = k_277_79 := (show m_tgl s_277 79 = m_fl (s_277.drop 6) from rfl).trans fl_277_6
theorem tg_277_93 {L : Nat} {xs : Nat → Int32} : m_tg (p_P L xs) 277 93 = k_277_93 := (show m_tgl s_277 93 = m_fl (s_277.drop 7) from rfl).trans fl_277_7
theorem tg_277_94 {L : Nat} {xs : Nat → Int32} : m_tg (p_P L xs) 277 94 = k_277_94 := (show m_tgl s_277 94 = m_fl (s_277.drop 8) from rfl).trans fl_277_8
noncomputable def k_278_153 : List Instr := .ireturn :: []
theorem fl_278_10 : m_fl (s_278.drop 10) = k_278_153 := rfl
noncomputable def k_278_152 : List Instr := .iload 3 :: k_278_153
theorem fl_278_9 : m_fl (s_278.drop 9) = k_278_152 := (show m_fl (s_278.drop 9) = [.iload 3] ++ m_fl (s_278.drop 10) from rfl).trans (by rw [fl_278_10]; rfl)
noncomputable def k_278_144 : List Instr := .iload 2 :: .ifCond .eq 152 :: .iconst (-1) :: .goto 153 :: k_278_152
theorem fl_278_8 : m_fl (s_278.drop 8) = k_278_144 := (show m_fl (s_278.drop 8) = [.iload 2, .ifCond .eq 152, .iconst (-1), .goto 153] ++ m_fl (s_278.drop 9) from rfl).trans (by rw [fl_278_9]; rfl)
noncomputable def k_278_138 : List Instr := .iinc 4 1 :: .goto 105 :: k_278_144
theorem fl_278_7 : m_fl (s_278.drop 7) = k_278_138 := (show m_fl (s_278.drop 7) = [.iinc 4 1, .goto 105] ++ m_fl (s_278.drop 8) from rfl).trans (by rw [fl_278_8]; rfl)
noncomputable def k_278_135 : List Instr := .iinc 3 1 :: k_278_138
theorem fl_278_6 : m_fl (s_278.drop 6) = k_278_135 := (show m_fl (s_278.drop 6) = [.iinc 3 1] ++ m_fl (s_278.drop 7) from rfl).trans (by rw [fl_278_7]; rfl)
noncomputable def k_278_128 : List Instr := .iload 2 :: .ifCond .eq 135 :: .iload 4 :: .ireturn :: k_278_135
theorem fl_278_5 : m_fl (s_278.drop 5) = k_278_128 := (show m_fl (s_278.drop 5) = [.iload 2, .ifCond .eq 135, .iload 4, .ireturn] ++ m_fl (s_278.drop 6) from rfl).trans (by rw [fl_278_6]; rfl)
noncomputable def k_278_105 : List Instr := .iload 4 :: .aload 0 :: .getfield 780 :: .iconst 1 :: .iaload :: .if_icmp .ge 144 :: .aload 0 :: .iload 4 :: .invokevirtual 277 :: .ifCond .ne 128 :: .goto 138 :: k_278_128
theorem fl_278_4 : m_fl (s_278.drop 4) = k_278_105 := (show m_fl (s_278.drop 4) = [.iload 4, .aload 0, .getfield 780, .iconst 1, .iaload, .if_icmp .ge 144, .aload 0, .iload 4, .invokevirtual 277, .ifCond .ne 128, .goto 138] ++ m_fl (s_278.drop 5) from rfl).trans (by rw [fl_278_5]; rfl)
noncomputable def k_278_100 : List Instr := .iconst 0 :: .istore 3 :: .iconst 0 :: .istore 4 :: k_278_105
theorem fl_278_3 : m_fl (s_278.drop 3) = k_278_100 := (show m_fl (s_278.drop 3) = [.iconst 0, .istore 3, .iconst 0, .istore 4] ++ m_fl (s_278.drop 4) from rfl).trans (by rw [fl_278_4]; rfl)
noncomputable def k_278_80 : List Instr := .aload 0 :: .invokevirtual 200 :: .aload 0 :: .invokevirtual 171 :: .ifCond .ne 100 :: .iconst (-1000000000) :: .aload 0 :: .getfield 794 :: .isub :: .ireturn :: k_278_100
theorem fl_278_2 : m_fl (s_278.drop 2) = k_278_80 := (show m_fl (s_278.drop 2) = [.aload 0, .invokevirtual 200, .aload 0, .invokevirtual 171, .ifCond .ne 100, .iconst (-1000000000), .aload 0, .getfield 794, .isub, .ireturn] ++ m_fl (s_278.drop 3) from rfl).trans (by rw [fl_278_3]; rfl)
noncomputable def k_278_32 : List Instr := .aload 0 :: .iload 1 :: .invokevirtual 169 :: .aload 0 :: .iconst 0 :: .putfield 799 :: .aload 0 :: .iconst 0 :: .putfield 801 :: .aload 0 :: .iconst 1 :: .putfield 803 :: .aload 0 :: .ldc2_w 3379448 :: .invokevirtual 173 :: .istore 2 :: .iload 2 :: .ifCond .ne 80 :: .aload 0 :: .ldc2_w 257011 :: .invokevirtual 173 :: .ifCond .ne 80 :: .aload 0 :: .iconst 1 :: .invokevirtual 170 :: .pop :: k_278_80
theorem fl_278_1 : m_fl (s_278.drop 1) = k_278_32 := (show m_fl (s_278.drop 1) = [.aload 0, .iload 1, .invokevirtual 169, .aload 0, .iconst 0, .putfield 799, .aload 0, .iconst 0, .putfield 801, .aload 0, .iconst 1, .putfield 803, .aload 0, .ldc2_w 3379448, .invokevirtual 173, .istore 2, .iload 2, .ifCond .ne 80, .aload 0, .ldc2_w 257011, .invokevirtual 173, .ifCond .ne 80, .aload 0, .iconst 1, .invokevirtual 170, .pop] ++ m_fl (s_278.drop 2) from rfl).trans (by rw [fl_278_2]; rfl)
noncomputable def k_278_0 : List Instr := .aload 0 :: .iconst 0 :: .putfield 768 :: .aload 0 :: .iload 1 :: .i2l :: .ldc2_w 0 :: .aload 0 :: .getfield 787 :: .iconst 200 :: .invokestatic 155 :: .i2l :: .invokestatic 153 :: .iconst 1 :: .invokevirtual 154 :: .ifCond .eq 32 :: .iconst 0 :: .ireturn :: k_278_32
theorem fl_278_0 : m_fl (s_278.drop 0) = k_278_0 := (show m_fl (s_278.drop 0) = [.aload 0, .iconst 0, .putfield 768, .aload 0, .iload 1, .i2l, .ldc2_w 0, .aload 0, .getfield 787, .iconst 200, .invokestatic 155, .i2l, .invokestatic 153, .iconst 1, .invokevirtual 154, .ifCond .eq 32, .iconst 0, .ireturn] ++ m_fl (s_278.drop 1) from rfl).trans (by rw [fl_278_1]; rfl)
theorem tn_278_0 {L : Nat} {xs : Nat → Int32} : m_tg (p_P L xs) 278 0 = k_278_0 := (show m_tgl s_278 0 = m_fl (s_278.drop 0) from rfl).trans fl_278_0
theorem tg_278_32 {L : Nat} {xs : Nat → Int32} : m_tg (p_P L xs) 278 32 = k_278_32 := (show m_tgl s_278 32 = m_fl (s_278.drop 1) from rfl).trans fl_278_1
theorem tg_278_80 {L : Nat} {xs : Nat → Int32} : m_tg (p_P L xs) 278 80 = k_278_80 := (show m_tgl s_278 80 = m_fl (s_278.drop 2) from rfl).trans fl_278_2
theorem tg_278_100 {L : Nat} {xs : Nat → Int32} : m_tg (p_P L xs) 278 100 = k_278_100 := (show m_tgl s_278 100 = m_fl (s_278.drop 3) from rfl).trans fl_278_3
theorem tg_278_105 {L : Nat} {xs : Nat → Int32} : m_tg (p_P L xs) 278 105 = k_278_105 := (show m_tgl s_278 105 = m_fl (s_278.drop 4) from rfl).trans fl_278_4
theorem tg_278_128 {L : Nat} {xs : Nat → Int32} : m_tg (p_P L xs) 278 128 = k_278_128 := (show m_tgl s_278 128 = m_fl (s_278.drop 5) from rfl).trans fl_278_5
theorem tg_278_135 {L : Nat} {xs : Nat → Int32} : m_tg (p_P L xs) 278 135 = k_278_135 := (show m_tgl s_278 135 = m_fl (s_278.drop 6) from rfl).trans fl_278_6
theorem tg_278_138 {L : Nat} {xs : Nat → Int32} : m_tg (p_P L xs) 278 138 = k_278_138 := (show m_tgl s_278 138 = m_fl (s_278.drop 7) from rfl).trans fl_278_7
theorem tg_278_144 {L : Nat} {xs : Nat → Int32} : m_tg (p_P L xs) 278 144 = k_278_144 := (show m_tgl s_278 144 = m_fl (s_278.drop 8) from rfl).trans fl_278_8
theorem tg_278_152 {L : Nat} {xs : Nat → Int32} : m_tg (p_P L xs) 278 152 = k_278_152 := (show m_tgl s_278 152 = m_fl (s_278.drop 9) from rfl).trans fl_278_9
theorem tg_278_153 {L : Nat} {xs : Nat → Int32} : m_tg (p_P L xs) 278 153 = k_278_153 := (show m_tgl s_278 153 = m_fl (s_278.drop 10) from rfl).trans fl_278_10
noncomputable def k_279_15 : List Instr := .iconst 0 :: .ireturn :: []
theorem fl_279_2 : m_fl (s_279.drop 2) = k_279_15 := rfl
noncomputable def k_279_13 : List Instr := .iconst 1 :: .ireturn :: k_279_15
theorem fl_279_1 : m_fl (s_279.drop 1) = k_279_13 := (show m_fl (s_279.drop 1) = [.iconst 1, .ireturn] ++ m_fl (s_279.drop 2) from rfl).trans (by rw [fl_279_2]; rfl)
noncomputable def k_279_0 : List Instr := .aload 2 :: .iconst 0 :: .aload 0 :: .iload 1 :: .invokevirtual 107 :: .i2l :: .lastore :: .goto 15 :: .nop :: k_279_13
theorem fl_279_0 : m_fl (s_279.drop 0) = k_279_0 := (show m_fl (s_279.drop 0) = [.aload 2, .iconst 0, .aload 0, .iload 1, .invokevirtual 107, .i2l, .lastore, .goto 15, .nop] ++ m_fl (s_279.drop 1) from rfl).trans (by rw [fl_279_1]; rfl)
theorem tn_279_0 {L : Nat} {xs : Nat → Int32} : m_tg (p_P L xs) 279 0 = k_279_0 := (show m_tgl s_279 0 = m_fl (s_279.drop 0) from rfl).trans fl_279_0
theorem tn_279_13 {L : Nat} {xs : Nat → Int32} : m_tg (p_P L xs) 279 13 = k_279_13 := (show m_tgl s_279 13 = m_fl (s_279.drop 1) from rfl).trans fl_279_1
theorem tg_279_13 {L : Nat} {xs : Nat → Int32} : m_tg (p_P L xs) 279 13 = k_279_13 := (show m_tgl s_279 13 = m_fl (s_279.drop 1) from rfl).trans fl_279_1
theorem tg_279_15 {L : Nat} {xs : Nat → Int32} : m_tg (p_P L xs) 279 15 = k_279_15 := (show m_tgl s_279 15 = m_fl (s_279.drop 2) from rfl).trans fl_279_2
noncomputable def k_280_15 : List Instr := .iconst 0 :: .ireturn :: []
theorem fl_280_2 : m_fl (s_280.drop 2) = k_280_15 := rfl
noncomputable def k_280_13 : List Instr := .iconst 1 :: .ireturn :: k_280_15
theorem fl_280_1 : m_fl (s_280.drop 1) = k_280_13 := (show m_fl (s_280.drop 1) = [.iconst 1, .ireturn] ++ m_fl (s_280.drop 2) from rfl).trans (by rw [fl_280_2]; rfl)
noncomputable def k_280_0 : List Instr := .aload 2 :: .iconst 0 :: .aload 0 :: .iload 1 :: .invokevirtual 113 :: .i2l :: .lastore :: .goto 15 :: .nop :: k_280_13
theorem fl_280_0 : m_fl (s_280.drop 0) = k_280_0 := (show m_fl (s_280.drop 0) = [.aload 2, .iconst 0, .aload 0, .iload 1, .invokevirtual 113, .i2l, .lastore, .goto 15, .nop] ++ m_fl (s_280.drop 1) from rfl).trans (by rw [fl_280_1]; rfl)
theorem tn_280_0 {L : Nat} {xs : Nat → Int32} : m_tg (p_P L xs) 280 0 = k_280_0 := (show m_tgl s_280 0 = m_fl (s_280.drop 0) from rfl).trans fl_280_0
theorem tn_280_13 {L : Nat} {xs : Nat → Int32} : m_tg (p_P L xs) 280 13 = k_280_13 := (show m_tgl s_280 13 = m_fl (s_280.drop 1) from rfl).trans fl_280_1
theorem tg_280_13 {L : Nat} {xs : Nat → Int32} : m_tg (p_P L xs) 280 13 = k_280_13 := (show m_tgl s_280 13 = m_fl (s_280.drop 1) from rfl).trans fl_280_1
theorem tg_280_15 {L : Nat} {xs : Nat → Int32} : m_tg (p_P L xs) 280 15 = k_280_15 := (show m_tgl s_280 15 = m_fl (s_280.drop 2) from rfl).trans fl_280_2
noncomputable def k_281_15 : List Instr := .iconst 0 :: .ireturn :: []
theorem fl_281_2 : m_fl (s_281.drop 2) = k_281_15 := rfl
noncomputable def k_281_13 : List Instr := .iconst 1 :: .ireturn :: k_281_15
theorem fl_281_1 : m_fl (s_281.drop 1) = k_281_13 := (show m_fl (s_281.drop 1) = [.iconst 1, .ireturn] ++ m_fl (s_281.drop 2) from rfl).trans (by rw [fl_281_2]; rfl)
noncomputable def k_281_0 : List Instr := .aload 2 :: .iconst 0 :: .aload 0 :: .iload 1 :: .invokevirtual 114 :: .i2l :: .lastore :: .goto 15 :: .nop :: k_281_13
theorem fl_281_0 : m_fl (s_281.drop 0) = k_281_0 := (show m_fl (s_281.drop 0) = [.aload 2, .iconst 0, .aload 0, .iload 1, .invokevirtual 114, .i2l, .lastore, .goto 15, .nop] ++ m_fl (s_281.drop 1) from rfl).trans (by rw [fl_281_1]; rfl)
theorem tn_281_0 {L : Nat} {xs : Nat → Int32} : m_tg (p_P L xs) 281 0 = k_281_0 := (show m_tgl s_281 0 = m_fl (s_281.drop 0) from rfl).trans fl_281_0
theorem tn_281_13 {L : Nat} {xs : Nat → Int32} : m_tg (p_P L xs) 281 13 = k_281_13 := (show m_tgl s_281 13 = m_fl (s_281.drop 1) from rfl).trans fl_281_1
theorem tg_281_13 {L : Nat} {xs : Nat → Int32} : m_tg (p_P L xs) 281 13 = k_281_13 := (show m_tgl s_281 13 = m_fl (s_281.drop 1) from rfl).trans fl_281_1
theorem tg_281_15 {L : Nat} {xs : Nat → Int32} : m_tg (p_P L xs) 281 15 = k_281_15 := (show m_tgl s_281 15 = m_fl (s_281.drop 2) from rfl).trans fl_281_2
noncomputable def k_282_27 : List Instr := .iconst 0 :: .ireturn :: []
theorem fl_282_3 : m_fl (s_282.drop 3) = k_282_27 := rfl
noncomputable def k_282_25 : List Instr := .iconst 2 :: .ireturn :: k_282_27
theorem fl_282_2 : m_fl (s_282.drop 2) = k_282_25 := (show m_fl (s_282.drop 2) = [.iconst 2, .ireturn] ++ m_fl (s_282.drop 3) from rfl).trans (by rw [fl_282_3]; rfl)
noncomputable def k_282_21 : List Instr := .iconst 1 :: .ireturn :: .nop :: k_282_25
theorem fl_282_1 : m_fl (s_282.drop 1) = k_282_21 := (show m_fl (s_282.drop 1) = [.iconst 1, .ireturn, .nop] ++ m_fl (s_282.drop 2) from rfl).trans (by rw [fl_282_2]; rfl)
noncomputable def k_282_0 : List Instr := .aload 6 :: .iconst 0 :: .aload 0 :: .iload 1 :: .iload 2 :: .iload 3 :: .iload 4 :: .iload 5 :: .invokevirtual 115 :: .i2l :: .lastore :: .goto 27 :: .nop :: k_282_21
theorem fl_282_0 : m_fl (s_282.drop 0) = k_282_0 := (show m_fl (s_282.drop 0) = [.aload 6, .iconst 0, .aload 0, .iload 1, .iload 2, .iload 3, .iload 4, .iload 5, .invokevirtual 115, .i2l, .lastore, .goto 27, .nop] ++ m_fl (s_282.drop 1) from rfl).trans (by rw [fl_282_1]; rfl)
theorem tn_282_0 {L : Nat} {xs : Nat → Int32} : m_tg (p_P L xs) 282 0 = k_282_0 := (show m_tgl s_282 0 = m_fl (s_282.drop 0) from rfl).trans fl_282_0
theorem tn_282_21 {L : Nat} {xs : Nat → Int32} : m_tg (p_P L xs) 282 21 = k_282_21 := (show m_tgl s_282 21 = m_fl (s_282.drop 1) from rfl).trans fl_282_1
theorem tg_282_21 {L : Nat} {xs : Nat → Int32} : m_tg (p_P L xs) 282 21 = k_282_21 := (show m_tgl s_282 21 = m_fl (s_282.drop 1) from rfl).trans fl_282_1
theorem tn_282_25 {L : Nat} {xs : Nat → Int32} : m_tg (p_P L xs) 282 25 = k_282_25 := (show m_tgl s_282 25 = m_fl (s_282.drop 2) from rfl).trans fl_282_2
theorem tg_282_25 {L : Nat} {xs : Nat → Int32} : m_tg (p_P L xs) 282 25 = k_282_25 := (show m_tgl s_282 25 = m_fl (s_282.drop 2) from rfl).trans fl_282_2
theorem tg_282_27 {L : Nat} {xs : Nat → Int32} : m_tg (p_P L xs) 282 27 = k_282_27 := (show m_tgl s_282 27 = m_fl (s_282.drop 3) from rfl).trans fl_282_3
noncomputable def k_283_15 : List Instr := .iconst 0 :: .ireturn :: []
theorem fl_283_2 : m_fl (s_283.drop 2) = k_283_15 := rfl
noncomputable def k_283_13 : List Instr := .iconst 1 :: .ireturn :: k_283_15
theorem fl_283_1 : m_fl (s_283.drop 1) = k_283_13 := (show m_fl (s_283.drop 1) = [.iconst 1, .ireturn] ++ m_fl (s_283.drop 2) from rfl).trans (by rw [fl_283_2]; rfl)
noncomputable def k_283_0 : List Instr := .aload 2 :: .iconst 0 :: .aload 0 :: .iload 1 :: .invokevirtual 116 :: .i2l :: .lastore :: .goto 15 :: .nop :: k_283_13
theorem fl_283_0 : m_fl (s_283.drop 0) = k_283_0 := (show m_fl (s_283.drop 0) = [.aload 2, .iconst 0, .aload 0, .iload 1, .invokevirtual 116, .i2l, .lastore, .goto 15, .nop] ++ m_fl (s_283.drop 1) from rfl).trans (by rw [fl_283_1]; rfl)
theorem tn_283_0 {L : Nat} {xs : Nat → Int32} : m_tg (p_P L xs) 283 0 = k_283_0 := (show m_tgl s_283 0 = m_fl (s_283.drop 0) from rfl).trans fl_283_0
theorem tn_283_13 {L : Nat} {xs : Nat → Int32} : m_tg (p_P L xs) 283 13 = k_283_13 := (show m_tgl s_283 13 = m_fl (s_283.drop 1) from rfl).trans fl_283_1
theorem tg_283_13 {L : Nat} {xs : Nat → Int32} : m_tg (p_P L xs) 283 13 = k_283_13 := (show m_tgl s_283 13 = m_fl (s_283.drop 1) from rfl).trans fl_283_1
theorem tg_283_15 {L : Nat} {xs : Nat → Int32} : m_tg (p_P L xs) 283 15 = k_283_15 := (show m_tgl s_283 15 = m_fl (s_283.drop 2) from rfl).trans fl_283_2
noncomputable def k_284_23 : List Instr := .iconst 0 :: .ireturn :: []
theorem fl_284_3 : m_fl (s_284.drop 3) = k_284_23 := rfl
noncomputable def k_284_21 : List Instr := .iconst 2 :: .ireturn :: k_284_23
theorem fl_284_2 : m_fl (s_284.drop 2) = k_284_21 := (show m_fl (s_284.drop 2) = [.iconst 2, .ireturn] ++ m_fl (s_284.drop 3) from rfl).trans (by rw [fl_284_3]; rfl)
noncomputable def k_284_17 : List Instr := .iconst 1 :: .ireturn :: .nop :: k_284_21
theorem fl_284_1 : m_fl (s_284.drop 1) = k_284_17 := (show m_fl (s_284.drop 1) = [.iconst 1, .ireturn, .nop] ++ m_fl (s_284.drop 2) from rfl).trans (by rw [fl_284_2]; rfl)
noncomputable def k_284_0 : List Instr := .aload 4 :: .iconst 0 :: .aload 0 :: .iload 1 :: .iload 2 :: .iload 3 :: .invokevirtual 117 :: .i2l :: .lastore :: .goto 23 :: .nop :: k_284_17
theorem fl_284_0 : m_fl (s_284.drop 0) = k_284_0 := (show m_fl (s_284.drop 0) = [.aload 4, .iconst 0, .aload 0, .iload 1, .iload 2, .iload 3, .invokevirtual 117, .i2l, .lastore, .goto 23, .nop] ++ m_fl (s_284.drop 1) from rfl).trans (by rw [fl_284_1]; rfl)
theorem tn_284_0 {L : Nat} {xs : Nat → Int32} : m_tg (p_P L xs) 284 0 = k_284_0 := (show m_tgl s_284 0 = m_fl (s_284.drop 0) from rfl).trans fl_284_0
theorem tn_284_17 {L : Nat} {xs : Nat → Int32} : m_tg (p_P L xs) 284 17 = k_284_17 := (show m_tgl s_284 17 = m_fl (s_284.drop 1) from rfl).trans fl_284_1
theorem tg_284_17 {L : Nat} {xs : Nat → Int32} : m_tg (p_P L xs) 284 17 = k_284_17 := (show m_tgl s_284 17 = m_fl (s_284.drop 1) from rfl).trans fl_284_1
theorem tn_284_21 {L : Nat} {xs : Nat → Int32} : m_tg (p_P L xs) 284 21 = k_284_21 := (show m_tgl s_284 21 = m_fl (s_284.drop 2) from rfl).trans fl_284_2
theorem tg_284_21 {L : Nat} {xs : Nat → Int32} : m_tg (p_P L xs) 284 21 = k_284_21 := (show m_tgl s_284 21 = m_fl (s_284.drop 2) from rfl).trans fl_284_2
theorem tg_284_23 {L : Nat} {xs : Nat → Int32} : m_tg (p_P L xs) 284 23 = k_284_23 := (show m_tgl s_284 23 = m_fl (s_284.drop 3) from rfl).trans fl_284_3
noncomputable def k_285_15 : List Instr := .iconst 0 :: .ireturn :: []
theorem fl_285_2 : m_fl (s_285.drop 2) = k_285_15 := rfl
noncomputable def k_285_13 : List Instr := .iconst 1 :: .ireturn :: k_285_15
theorem fl_285_1 : m_fl (s_285.drop 1) = k_285_13 := (show m_fl (s_285.drop 1) = [.iconst 1, .ireturn] ++ m_fl (s_285.drop 2) from rfl).trans (by rw [fl_285_2]; rfl)
noncomputable def k_285_0 : List Instr := .aload 2 :: .iconst 0 :: .aload 0 :: .iload 1 :: .invokevirtual 118 :: .i2l :: .lastore :: .goto 15 :: .nop :: k_285_13
theorem fl_285_0 : m_fl (s_285.drop 0) = k_285_0 := (show m_fl (s_285.drop 0) = [.aload 2, .iconst 0, .aload 0, .iload 1, .invokevirtual 118, .i2l, .lastore, .goto 15, .nop] ++ m_fl (s_285.drop 1) from rfl).trans (by rw [fl_285_1]; rfl)
theorem tn_285_0 {L : Nat} {xs : Nat → Int32} : m_tg (p_P L xs) 285 0 = k_285_0 := (show m_tgl s_285 0 = m_fl (s_285.drop 0) from rfl).trans fl_285_0
theorem tn_285_13 {L : Nat} {xs : Nat → Int32} : m_tg (p_P L xs) 285 13 = k_285_13 := (show m_tgl s_285 13 = m_fl (s_285.drop 1) from rfl).trans fl_285_1
theorem tg_285_13 {L : Nat} {xs : Nat → Int32} : m_tg (p_P L xs) 285 13 = k_285_13 := (show m_tgl s_285 13 = m_fl (s_285.drop 1) from rfl).trans fl_285_1
theorem tg_285_15 {L : Nat} {xs : Nat → Int32} : m_tg (p_P L xs) 285 15 = k_285_15 := (show m_tgl s_285 15 = m_fl (s_285.drop 2) from rfl).trans fl_285_2
noncomputable def k_286_15 : List Instr := .iconst 0 :: .ireturn :: []
theorem fl_286_2 : m_fl (s_286.drop 2) = k_286_15 := rfl
noncomputable def k_286_13 : List Instr := .iconst 1 :: .ireturn :: k_286_15
theorem fl_286_1 : m_fl (s_286.drop 1) = k_286_13 := (show m_fl (s_286.drop 1) = [.iconst 1, .ireturn] ++ m_fl (s_286.drop 2) from rfl).trans (by rw [fl_286_2]; rfl)
noncomputable def k_286_0 : List Instr := .aload 2 :: .iconst 0 :: .aload 0 :: .iload 1 :: .invokevirtual 119 :: .i2l :: .lastore :: .goto 15 :: .nop :: k_286_13
theorem fl_286_0 : m_fl (s_286.drop 0) = k_286_0 := (show m_fl (s_286.drop 0) = [.aload 2, .iconst 0, .aload 0, .iload 1, .invokevirtual 119, .i2l, .lastore, .goto 15, .nop] ++ m_fl (s_286.drop 1) from rfl).trans (by rw [fl_286_1]; rfl)
theorem tn_286_0 {L : Nat} {xs : Nat → Int32} : m_tg (p_P L xs) 286 0 = k_286_0 := (show m_tgl s_286 0 = m_fl (s_286.drop 0) from rfl).trans fl_286_0
theorem tn_286_13 {L : Nat} {xs : Nat → Int32} : m_tg (p_P L xs) 286 13 = k_286_13 := (show m_tgl s_286 13 = m_fl (s_286.drop 1) from rfl).trans fl_286_1
theorem tg_286_13 {L : Nat} {xs : Nat → Int32} : m_tg (p_P L xs) 286 13 = k_286_13 := (show m_tgl s_286 13 = m_fl (s_286.drop 1) from rfl).trans fl_286_1
theorem tg_286_15 {L : Nat} {xs : Nat → Int32} : m_tg (p_P L xs) 286 15 = k_286_15 := (show m_tgl s_286 15 = m_fl (s_286.drop 2) from rfl).trans fl_286_2
noncomputable def k_287_15 : List Instr := .iconst 0 :: .ireturn :: []
theorem fl_287_2 : m_fl (s_287.drop 2) = k_287_15 := rfl
noncomputable def k_287_13 : List Instr := .iconst 1 :: .ireturn :: k_287_15
theorem fl_287_1 : m_fl (s_287.drop 1) = k_287_13 := (show m_fl (s_287.drop 1) = [.iconst 1, .ireturn] ++ m_fl (s_287.drop 2) from rfl).trans (by rw [fl_287_2]; rfl)
noncomputable def k_287_0 : List Instr := .aload 2 :: .iconst 0 :: .aload 0 :: .iload 1 :: .invokevirtual 120 :: .i2l :: .lastore :: .goto 15 :: .nop :: k_287_13
theorem fl_287_0 : m_fl (s_287.drop 0) = k_287_0 := (show m_fl (s_287.drop 0) = [.aload 2, .iconst 0, .aload 0, .iload 1, .invokevirtual 120, .i2l, .lastore, .goto 15, .nop] ++ m_fl (s_287.drop 1) from rfl).trans (by rw [fl_287_1]; rfl)
theorem tn_287_0 {L : Nat} {xs : Nat → Int32} : m_tg (p_P L xs) 287 0 = k_287_0 := (show m_tgl s_287 0 = m_fl (s_287.drop 0) from rfl).trans fl_287_0
theorem tn_287_13 {L : Nat} {xs : Nat → Int32} : m_tg (p_P L xs) 287 13 = k_287_13 := (show m_tgl s_287 13 = m_fl (s_287.drop 1) from rfl).trans fl_287_1
theorem tg_287_13 {L : Nat} {xs : Nat → Int32} : m_tg (p_P L xs) 287 13 = k_287_13 := (show m_tgl s_287 13 = m_fl (s_287.drop 1) from rfl).trans fl_287_1
theorem tg_287_15 {L : Nat} {xs : Nat → Int32} : m_tg (p_P L xs) 287 15 = k_287_15 := (show m_tgl s_287 15 = m_fl (s_287.drop 2) from rfl).trans fl_287_2
noncomputable def k_288_23 : List Instr := .iconst 0 :: .ireturn :: []
theorem fl_288_3 : m_fl (s_288.drop 3) = k_288_23 := rfl
noncomputable def k_288_21 : List Instr := .iconst 2 :: .ireturn :: k_288_23
theorem fl_288_2 : m_fl (s_288.drop 2) = k_288_21 := (show m_fl (s_288.drop 2) = [.iconst 2, .ireturn] ++ m_fl (s_288.drop 3) from rfl).trans (by rw [fl_288_3]; rfl)
noncomputable def k_288_17 : List Instr := .iconst 1 :: .ireturn :: .nop :: k_288_21
theorem fl_288_1 : m_fl (s_288.drop 1) = k_288_17 := (show m_fl (s_288.drop 1) = [.iconst 1, .ireturn, .nop] ++ m_fl (s_288.drop 2) from rfl).trans (by rw [fl_288_2]; rfl)
noncomputable def k_288_0 : List Instr := .aload 4 :: .iconst 0 :: .aload 0 :: .iload 1 :: .iload 2 :: .iload 3 :: .invokevirtual 121 :: .i2l :: .lastore :: .goto 23 :: .nop :: k_288_17
theorem fl_288_0 : m_fl (s_288.drop 0) = k_288_0 := (show m_fl (s_288.drop 0) = [.aload 4, .iconst 0, .aload 0, .iload 1, .iload 2, .iload 3, .invokevirtual 121, .i2l, .lastore, .goto 23, .nop] ++ m_fl (s_288.drop 1) from rfl).trans (by rw [fl_288_1]; rfl)
theorem tn_288_0 {L : Nat} {xs : Nat → Int32} : m_tg (p_P L xs) 288 0 = k_288_0 := (show m_tgl s_288 0 = m_fl (s_288.drop 0) from rfl).trans fl_288_0
theorem tn_288_17 {L : Nat} {xs : Nat → Int32} : m_tg (p_P L xs) 288 17 = k_288_17 := (show m_tgl s_288 17 = m_fl (s_288.drop 1) from rfl).trans fl_288_1
theorem tg_288_17 {L : Nat} {xs : Nat → Int32} : m_tg (p_P L xs) 288 17 = k_288_17 := (show m_tgl s_288 17 = m_fl (s_288.drop 1) from rfl).trans fl_288_1
theorem tn_288_21 {L : Nat} {xs : Nat → Int32} : m_tg (p_P L xs) 288 21 = k_288_21 := (show m_tgl s_288 21 = m_fl (s_288.drop 2) from rfl).trans fl_288_2
theorem tg_288_21 {L : Nat} {xs : Nat → Int32} : m_tg (p_P L xs) 288 21 = k_288_21 := (show m_tgl s_288 21 = m_fl (s_288.drop 2) from rfl).trans fl_288_2
theorem tg_288_23 {L : Nat} {xs : Nat → Int32} : m_tg (p_P L xs) 288 23 = k_288_23 := (show m_tgl s_288 23 = m_fl (s_288.drop 3) from rfl).trans fl_288_3
noncomputable def k_289_15 : List Instr := .iconst 0 :: .ireturn :: []
theorem fl_289_2 : m_fl (s_289.drop 2) = k_289_15 := rfl
noncomputable def k_289_13 : List Instr := .iconst 1 :: .ireturn :: k_289_15
theorem fl_289_1 : m_fl (s_289.drop 1) = k_289_13 := (show m_fl (s_289.drop 1) = [.iconst 1, .ireturn] ++ m_fl (s_289.drop 2) from rfl).trans (by rw [fl_289_2]; rfl)
noncomputable def k_289_0 : List Instr := .aload 2 :: .iconst 0 :: .aload 0 :: .iload 1 :: .invokevirtual 122 :: .i2l :: .lastore :: .goto 15 :: .nop :: k_289_13
theorem fl_289_0 : m_fl (s_289.drop 0) = k_289_0 := (show m_fl (s_289.drop 0) = [.aload 2, .iconst 0, .aload 0, .iload 1, .invokevirtual 122, .i2l, .lastore, .goto 15, .nop] ++ m_fl (s_289.drop 1) from rfl).trans (by rw [fl_289_1]; rfl)
theorem tn_289_0 {L : Nat} {xs : Nat → Int32} : m_tg (p_P L xs) 289 0 = k_289_0 := (show m_tgl s_289 0 = m_fl (s_289.drop 0) from rfl).trans fl_289_0
theorem tn_289_13 {L : Nat} {xs : Nat → Int32} : m_tg (p_P L xs) 289 13 = k_289_13 := (show m_tgl s_289 13 = m_fl (s_289.drop 1) from rfl).trans fl_289_1
theorem tg_289_13 {L : Nat} {xs : Nat → Int32} : m_tg (p_P L xs) 289 13 = k_289_13 := (show m_tgl s_289 13 = m_fl (s_289.drop 1) from rfl).trans fl_289_1
theorem tg_289_15 {L : Nat} {xs : Nat → Int32} : m_tg (p_P L xs) 289 15 = k_289_15 := (show m_tgl s_289 15 = m_fl (s_289.drop 2) from rfl).trans fl_289_2
noncomputable def k_290_15 : List Instr := .iconst 0 :: .ireturn :: []
theorem fl_290_2 : m_fl (s_290.drop 2) = k_290_15 := rfl
noncomputable def k_290_13 : List Instr := .iconst 1 :: .ireturn :: k_290_15
theorem fl_290_1 : m_fl (s_290.drop 1) = k_290_13 := (show m_fl (s_290.drop 1) = [.iconst 1, .ireturn] ++ m_fl (s_290.drop 2) from rfl).trans (by rw [fl_290_2]; rfl)
noncomputable def k_290_0 : List Instr := .aload 2 :: .iconst 0 :: .aload 0 :: .iload 1 :: .invokevirtual 123 :: .i2l :: .lastore :: .goto 15 :: .nop :: k_290_13
theorem fl_290_0 : m_fl (s_290.drop 0) = k_290_0 := (show m_fl (s_290.drop 0) = [.aload 2, .iconst 0, .aload 0, .iload 1, .invokevirtual 123, .i2l, .lastore, .goto 15, .nop] ++ m_fl (s_290.drop 1) from rfl).trans (by rw [fl_290_1]; rfl)
theorem tn_290_0 {L : Nat} {xs : Nat → Int32} : m_tg (p_P L xs) 290 0 = k_290_0 := (show m_tgl s_290 0 = m_fl (s_290.drop 0) from rfl).trans fl_290_0
theorem tn_290_13 {L : Nat} {xs : Nat → Int32} : m_tg (p_P L xs) 290 13 = k_290_13 := (show m_tgl s_290 13 = m_fl (s_290.drop 1) from rfl).trans fl_290_1
theorem tg_290_13 {L : Nat} {xs : Nat → Int32} : m_tg (p_P L xs) 290 13 = k_290_13 := (show m_tgl s_290 13 = m_fl (s_290.drop 1) from rfl).trans fl_290_1
theorem tg_290_15 {L : Nat} {xs : Nat → Int32} : m_tg (p_P L xs) 290 15 = k_290_15 := (show m_tgl s_290 15 = m_fl (s_290.drop 2) from rfl).trans fl_290_2
noncomputable def k_291_15 : List Instr := .iconst 0 :: .ireturn :: []
theorem fl_291_2 : m_fl (s_291.drop 2) = k_291_15 := rfl
noncomputable def k_291_13 : List Instr := .iconst 1 :: .ireturn :: k_291_15
theorem fl_291_1 : m_fl (s_291.drop 1) = k_291_13 := (show m_fl (s_291.drop 1) = [.iconst 1, .ireturn] ++ m_fl (s_291.drop 2) from rfl).trans (by rw [fl_291_2]; rfl)
noncomputable def k_291_0 : List Instr := .aload 2 :: .iconst 0 :: .aload 0 :: .iload 1 :: .invokevirtual 124 :: .i2l :: .lastore :: .goto 15 :: .nop :: k_291_13
theorem fl_291_0 : m_fl (s_291.drop 0) = k_291_0 := (show m_fl (s_291.drop 0) = [.aload 2, .iconst 0, .aload 0, .iload 1, .invokevirtual 124, .i2l, .lastore, .goto 15, .nop] ++ m_fl (s_291.drop 1) from rfl).trans (by rw [fl_291_1]; rfl)
theorem tn_291_0 {L : Nat} {xs : Nat → Int32} : m_tg (p_P L xs) 291 0 = k_291_0 := (show m_tgl s_291 0 = m_fl (s_291.drop 0) from rfl).trans fl_291_0
theorem tn_291_13 {L : Nat} {xs : Nat → Int32} : m_tg (p_P L xs) 291 13 = k_291_13 := (show m_tgl s_291 13 = m_fl (s_291.drop 1) from rfl).trans fl_291_1
theorem tg_291_13 {L : Nat} {xs : Nat → Int32} : m_tg (p_P L xs) 291 13 = k_291_13 := (show m_tgl s_291 13 = m_fl (s_291.drop 1) from rfl).trans fl_291_1
theorem tg_291_15 {L : Nat} {xs : Nat → Int32} : m_tg (p_P L xs) 291 15 = k_291_15 := (show m_tgl s_291 15 = m_fl (s_291.drop 2) from rfl).trans fl_291_2
noncomputable def k_292_15 : List Instr := .iconst 0 :: .ireturn :: []
theorem fl_292_2 : m_fl (s_292.drop 2) = k_292_15 := rfl
noncomputable def k_292_13 : List Instr := .iconst 1 :: .ireturn :: k_292_15
theorem fl_292_1 : m_fl (s_292.drop 1) = k_292_13 := (show m_fl (s_292.drop 1) = [.iconst 1, .ireturn] ++ m_fl (s_292.drop 2) from rfl).trans (by rw [fl_292_2]; rfl)
noncomputable def k_292_0 : List Instr := .aload 2 :: .iconst 0 :: .aload 0 :: .iload 1 :: .invokevirtual 125 :: .i2l :: .lastore :: .goto 15 :: .nop :: k_292_13
theorem fl_292_0 : m_fl (s_292.drop 0) = k_292_0 := (show m_fl (s_292.drop 0) = [.aload 2, .iconst 0, .aload 0, .iload 1, .invokevirtual 125, .i2l, .lastore, .goto 15, .nop] ++ m_fl (s_292.drop 1) from rfl).trans (by rw [fl_292_1]; rfl)
theorem tn_292_0 {L : Nat} {xs : Nat → Int32} : m_tg (p_P L xs) 292 0 = k_292_0 := (show m_tgl s_292 0 = m_fl (s_292.drop 0) from rfl).trans fl_292_0
theorem tn_292_13 {L : Nat} {xs : Nat → Int32} : m_tg (p_P L xs) 292 13 = k_292_13 := (show m_tgl s_292 13 = m_fl (s_292.drop 1) from rfl).trans fl_292_1
theorem tg_292_13 {L : Nat} {xs : Nat → Int32} : m_tg (p_P L xs) 292 13 = k_292_13 := (show m_tgl s_292 13 = m_fl (s_292.drop 1) from rfl).trans fl_292_1
theorem tg_292_15 {L : Nat} {xs : Nat → Int32} : m_tg (p_P L xs) 292 15 = k_292_15 := (show m_tgl s_292 15 = m_fl (s_292.drop 2) from rfl).trans fl_292_2
noncomputable def k_293_17 : List Instr := .iconst 0 :: .ireturn :: []
theorem fl_293_2 : m_fl (s_293.drop 2) = k_293_17 := rfl
noncomputable def k_293_15 : List Instr := .iconst 1 :: .ireturn :: k_293_17
theorem fl_293_1 : m_fl (s_293.drop 1) = k_293_15 := (show m_fl (s_293.drop 1) = [.iconst 1, .ireturn] ++ m_fl (s_293.drop 2) from rfl).trans (by rw [fl_293_2]; rfl)
noncomputable def k_293_0 : List Instr := .aload 3 :: .iconst 0 :: .aload 0 :: .iload 1 :: .iload 2 :: .invokevirtual 126 :: .i2l :: .lastore :: .goto 17 :: .nop :: k_293_15
theorem fl_293_0 : m_fl (s_293.drop 0) = k_293_0 := (show m_fl (s_293.drop 0) = [.aload 3, .iconst 0, .aload 0, .iload 1, .iload 2, .invokevirtual 126, .i2l, .lastore, .goto 17, .nop] ++ m_fl (s_293.drop 1) from rfl).trans (by rw [fl_293_1]; rfl)
theorem tn_293_0 {L : Nat} {xs : Nat → Int32} : m_tg (p_P L xs) 293 0 = k_293_0 := (show m_tgl s_293 0 = m_fl (s_293.drop 0) from rfl).trans fl_293_0
theorem tn_293_15 {L : Nat} {xs : Nat → Int32} : m_tg (p_P L xs) 293 15 = k_293_15 := (show m_tgl s_293 15 = m_fl (s_293.drop 1) from rfl).trans fl_293_1
theorem tg_293_15 {L : Nat} {xs : Nat → Int32} : m_tg (p_P L xs) 293 15 = k_293_15 := (show m_tgl s_293 15 = m_fl (s_293.drop 1) from rfl).trans fl_293_1
theorem tg_293_17 {L : Nat} {xs : Nat → Int32} : m_tg (p_P L xs) 293 17 = k_293_17 := (show m_tgl s_293 17 = m_fl (s_293.drop 2) from rfl).trans fl_293_2
noncomputable def k_294_17 : List Instr := .iconst 0 :: .ireturn :: []
theorem fl_294_2 : m_fl (s_294.drop 2) = k_294_17 := rfl
noncomputable def k_294_15 : List Instr := .iconst 1 :: .ireturn :: k_294_17
theorem fl_294_1 : m_fl (s_294.drop 1) = k_294_15 := (show m_fl (s_294.drop 1) = [.iconst 1, .ireturn] ++ m_fl (s_294.drop 2) from rfl).trans (by rw [fl_294_2]; rfl)
noncomputable def k_294_0 : List Instr := .aload 3 :: .iconst 0 :: .aload 0 :: .iload 1 :: .iload 2 :: .invokevirtual 127 :: .i2l :: .lastore :: .goto 17 :: .nop :: k_294_15
theorem fl_294_0 : m_fl (s_294.drop 0) = k_294_0 := (show m_fl (s_294.drop 0) = [.aload 3, .iconst 0, .aload 0, .iload 1, .iload 2, .invokevirtual 127, .i2l, .lastore, .goto 17, .nop] ++ m_fl (s_294.drop 1) from rfl).trans (by rw [fl_294_1]; rfl)
theorem tn_294_0 {L : Nat} {xs : Nat → Int32} : m_tg (p_P L xs) 294 0 = k_294_0 := (show m_tgl s_294 0 = m_fl (s_294.drop 0) from rfl).trans fl_294_0
theorem tn_294_15 {L : Nat} {xs : Nat → Int32} : m_tg (p_P L xs) 294 15 = k_294_15 := (show m_tgl s_294 15 = m_fl (s_294.drop 1) from rfl).trans fl_294_1
theorem tg_294_15 {L : Nat} {xs : Nat → Int32} : m_tg (p_P L xs) 294 15 = k_294_15 := (show m_tgl s_294 15 = m_fl (s_294.drop 1) from rfl).trans fl_294_1
theorem tg_294_17 {L : Nat} {xs : Nat → Int32} : m_tg (p_P L xs) 294 17 = k_294_17 := (show m_tgl s_294 17 = m_fl (s_294.drop 2) from rfl).trans fl_294_2
noncomputable def k_295_17 : List Instr := .iconst 0 :: .ireturn :: []
theorem fl_295_2 : m_fl (s_295.drop 2) = k_295_17 := rfl
noncomputable def k_295_15 : List Instr := .iconst 1 :: .ireturn :: k_295_17
theorem fl_295_1 : m_fl (s_295.drop 1) = k_295_15 := (show m_fl (s_295.drop 1) = [.iconst 1, .ireturn] ++ m_fl (s_295.drop 2) from rfl).trans (by rw [fl_295_2]; rfl)
noncomputable def k_295_0 : List Instr := .aload 3 :: .iconst 0 :: .aload 0 :: .iload 1 :: .iload 2 :: .invokevirtual 128 :: .i2l :: .lastore :: .goto 17 :: .nop :: k_295_15
theorem fl_295_0 : m_fl (s_295.drop 0) = k_295_0 := (show m_fl (s_295.drop 0) = [.aload 3, .iconst 0, .aload 0, .iload 1, .iload 2, .invokevirtual 128, .i2l, .lastore, .goto 17, .nop] ++ m_fl (s_295.drop 1) from rfl).trans (by rw [fl_295_1]; rfl)
theorem tn_295_0 {L : Nat} {xs : Nat → Int32} : m_tg (p_P L xs) 295 0 = k_295_0 := (show m_tgl s_295 0 = m_fl (s_295.drop 0) from rfl).trans fl_295_0
theorem tn_295_15 {L : Nat} {xs : Nat → Int32} : m_tg (p_P L xs) 295 15 = k_295_15 := (show m_tgl s_295 15 = m_fl (s_295.drop 1) from rfl).trans fl_295_1
theorem tg_295_15 {L : Nat} {xs : Nat → Int32} : m_tg (p_P L xs) 295 15 = k_295_15 := (show m_tgl s_295 15 = m_fl (s_295.drop 1) from rfl).trans fl_295_1
theorem tg_295_17 {L : Nat} {xs : Nat → Int32} : m_tg (p_P L xs) 295 17 = k_295_17 := (show m_tgl s_295 17 = m_fl (s_295.drop 2) from rfl).trans fl_295_2
noncomputable def k_296_15 : List Instr := .iconst 0 :: .ireturn :: []
theorem fl_296_2 : m_fl (s_296.drop 2) = k_296_15 := rfl
noncomputable def k_296_13 : List Instr := .iconst 1 :: .ireturn :: k_296_15
theorem fl_296_1 : m_fl (s_296.drop 1) = k_296_13 := (show m_fl (s_296.drop 1) = [.iconst 1, .ireturn] ++ m_fl (s_296.drop 2) from rfl).trans (by rw [fl_296_2]; rfl)
noncomputable def k_296_0 : List Instr := .aload 2 :: .iconst 0 :: .aload 0 :: .iload 1 :: .invokevirtual 129 :: .i2l :: .lastore :: .goto 15 :: .nop :: k_296_13
theorem fl_296_0 : m_fl (s_296.drop 0) = k_296_0 := (show m_fl (s_296.drop 0) = [.aload 2, .iconst 0, .aload 0, .iload 1, .invokevirtual 129, .i2l, .lastore, .goto 15, .nop] ++ m_fl (s_296.drop 1) from rfl).trans (by rw [fl_296_1]; rfl)
theorem tn_296_0 {L : Nat} {xs : Nat → Int32} : m_tg (p_P L xs) 296 0 = k_296_0 := (show m_tgl s_296 0 = m_fl (s_296.drop 0) from rfl).trans fl_296_0
theorem tn_296_13 {L : Nat} {xs : Nat → Int32} : m_tg (p_P L xs) 296 13 = k_296_13 := (show m_tgl s_296 13 = m_fl (s_296.drop 1) from rfl).trans fl_296_1
theorem tg_296_13 {L : Nat} {xs : Nat → Int32} : m_tg (p_P L xs) 296 13 = k_296_13 := (show m_tgl s_296 13 = m_fl (s_296.drop 1) from rfl).trans fl_296_1
theorem tg_296_15 {L : Nat} {xs : Nat → Int32} : m_tg (p_P L xs) 296 15 = k_296_15 := (show m_tgl s_296 15 = m_fl (s_296.drop 2) from rfl).trans fl_296_2
noncomputable def k_297_17 : List Instr := .iconst 0 :: .ireturn :: []
theorem fl_297_2 : m_fl (s_297.drop 2) = k_297_17 := rfl
noncomputable def k_297_15 : List Instr := .iconst 1 :: .ireturn :: k_297_17
theorem fl_297_1 : m_fl (s_297.drop 1) = k_297_15 := (show m_fl (s_297.drop 1) = [.iconst 1, .ireturn] ++ m_fl (s_297.drop 2) from rfl).trans (by rw [fl_297_2]; rfl)
noncomputable def k_297_0 : List Instr := .aload 3 :: .iconst 0 :: .aload 0 :: .iload 1 :: .iload 2 :: .invokevirtual 130 :: .i2l :: .lastore :: .goto 17 :: .nop :: k_297_15
theorem fl_297_0 : m_fl (s_297.drop 0) = k_297_0 := (show m_fl (s_297.drop 0) = [.aload 3, .iconst 0, .aload 0, .iload 1, .iload 2, .invokevirtual 130, .i2l, .lastore, .goto 17, .nop] ++ m_fl (s_297.drop 1) from rfl).trans (by rw [fl_297_1]; rfl)
theorem tn_297_0 {L : Nat} {xs : Nat → Int32} : m_tg (p_P L xs) 297 0 = k_297_0 := (show m_tgl s_297 0 = m_fl (s_297.drop 0) from rfl).trans fl_297_0
theorem tn_297_15 {L : Nat} {xs : Nat → Int32} : m_tg (p_P L xs) 297 15 = k_297_15 := (show m_tgl s_297 15 = m_fl (s_297.drop 1) from rfl).trans fl_297_1
theorem tg_297_15 {L : Nat} {xs : Nat → Int32} : m_tg (p_P L xs) 297 15 = k_297_15 := (show m_tgl s_297 15 = m_fl (s_297.drop 1) from rfl).trans fl_297_1
theorem tg_297_17 {L : Nat} {xs : Nat → Int32} : m_tg (p_P L xs) 297 17 = k_297_17 := (show m_tgl s_297 17 = m_fl (s_297.drop 2) from rfl).trans fl_297_2
noncomputable def k_298_15 : List Instr := .iconst 0 :: .ireturn :: []
theorem fl_298_2 : m_fl (s_298.drop 2) = k_298_15 := rfl
noncomputable def k_298_13 : List Instr := .iconst 1 :: .ireturn :: k_298_15
theorem fl_298_1 : m_fl (s_298.drop 1) = k_298_13 := (show m_fl (s_298.drop 1) = [.iconst 1, .ireturn] ++ m_fl (s_298.drop 2) from rfl).trans (by rw [fl_298_2]; rfl)
noncomputable def k_298_0 : List Instr := .aload 2 :: .iconst 0 :: .aload 0 :: .iload 1 :: .invokevirtual 131 :: .i2l :: .lastore :: .goto 15 :: .nop :: k_298_13
theorem fl_298_0 : m_fl (s_298.drop 0) = k_298_0 := (show m_fl (s_298.drop 0) = [.aload 2, .iconst 0, .aload 0, .iload 1, .invokevirtual 131, .i2l, .lastore, .goto 15, .nop] ++ m_fl (s_298.drop 1) from rfl).trans (by rw [fl_298_1]; rfl)
theorem tn_298_0 {L : Nat} {xs : Nat → Int32} : m_tg (p_P L xs) 298 0 = k_298_0 := (show m_tgl s_298 0 = m_fl (s_298.drop 0) from rfl).trans fl_298_0
theorem tn_298_13 {L : Nat} {xs : Nat → Int32} : m_tg (p_P L xs) 298 13 = k_298_13 := (show m_tgl s_298 13 = m_fl (s_298.drop 1) from rfl).trans fl_298_1
theorem tg_298_13 {L : Nat} {xs : Nat → Int32} : m_tg (p_P L xs) 298 13 = k_298_13 := (show m_tgl s_298 13 = m_fl (s_298.drop 1) from rfl).trans fl_298_1
theorem tg_298_15 {L : Nat} {xs : Nat → Int32} : m_tg (p_P L xs) 298 15 = k_298_15 := (show m_tgl s_298 15 = m_fl (s_298.drop 2) from rfl).trans fl_298_2
noncomputable def k_299_15 : List Instr := .iconst 0 :: .ireturn :: []
theorem fl_299_2 : m_fl (s_299.drop 2) = k_299_15 := rfl
noncomputable def k_299_13 : List Instr := .iconst 1 :: .ireturn :: k_299_15
theorem fl_299_1 : m_fl (s_299.drop 1) = k_299_13 := (show m_fl (s_299.drop 1) = [.iconst 1, .ireturn] ++ m_fl (s_299.drop 2) from rfl).trans (by rw [fl_299_2]; rfl)
noncomputable def k_299_0 : List Instr := .aload 2 :: .iconst 0 :: .aload 0 :: .iload 1 :: .invokevirtual 132 :: .i2l :: .lastore :: .goto 15 :: .nop :: k_299_13
theorem fl_299_0 : m_fl (s_299.drop 0) = k_299_0 := (show m_fl (s_299.drop 0) = [.aload 2, .iconst 0, .aload 0, .iload 1, .invokevirtual 132, .i2l, .lastore, .goto 15, .nop] ++ m_fl (s_299.drop 1) from rfl).trans (by rw [fl_299_1]; rfl)
theorem tn_299_0 {L : Nat} {xs : Nat → Int32} : m_tg (p_P L xs) 299 0 = k_299_0 := (show m_tgl s_299 0 = m_fl (s_299.drop 0) from rfl).trans fl_299_0
theorem tn_299_13 {L : Nat} {xs : Nat → Int32} : m_tg (p_P L xs) 299 13 = k_299_13 := (show m_tgl s_299 13 = m_fl (s_299.drop 1) from rfl).trans fl_299_1
theorem tg_299_13 {L : Nat} {xs : Nat → Int32} : m_tg (p_P L xs) 299 13 = k_299_13 := (show m_tgl s_299 13 = m_fl (s_299.drop 1) from rfl).trans fl_299_1
theorem tg_299_15 {L : Nat} {xs : Nat → Int32} : m_tg (p_P L xs) 299 15 = k_299_15 := (show m_tgl s_299 15 = m_fl (s_299.drop 2) from rfl).trans fl_299_2
noncomputable def k_300_15 : List Instr := .iconst 0 :: .ireturn :: []
theorem fl_300_2 : m_fl (s_300.drop 2) = k_300_15 := rfl
noncomputable def k_300_13 : List Instr := .iconst 1 :: .ireturn :: k_300_15
theorem fl_300_1 : m_fl (s_300.drop 1) = k_300_13 := (show m_fl (s_300.drop 1) = [.iconst 1, .ireturn] ++ m_fl (s_300.drop 2) from rfl).trans (by rw [fl_300_2]; rfl)
noncomputable def k_300_0 : List Instr := .aload 2 :: .iconst 0 :: .aload 0 :: .iload 1 :: .invokevirtual 133 :: .i2l :: .lastore :: .goto 15 :: .nop :: k_300_13
theorem fl_300_0 : m_fl (s_300.drop 0) = k_300_0 := (show m_fl (s_300.drop 0) = [.aload 2, .iconst 0, .aload 0, .iload 1, .invokevirtual 133, .i2l, .lastore, .goto 15, .nop] ++ m_fl (s_300.drop 1) from rfl).trans (by rw [fl_300_1]; rfl)
theorem tn_300_0 {L : Nat} {xs : Nat → Int32} : m_tg (p_P L xs) 300 0 = k_300_0 := (show m_tgl s_300 0 = m_fl (s_300.drop 0) from rfl).trans fl_300_0
theorem tn_300_13 {L : Nat} {xs : Nat → Int32} : m_tg (p_P L xs) 300 13 = k_300_13 := (show m_tgl s_300 13 = m_fl (s_300.drop 1) from rfl).trans fl_300_1
theorem tg_300_13 {L : Nat} {xs : Nat → Int32} : m_tg (p_P L xs) 300 13 = k_300_13 := (show m_tgl s_300 13 = m_fl (s_300.drop 1) from rfl).trans fl_300_1
theorem tg_300_15 {L : Nat} {xs : Nat → Int32} : m_tg (p_P L xs) 300 15 = k_300_15 := (show m_tgl s_300 15 = m_fl (s_300.drop 2) from rfl).trans fl_300_2
noncomputable def k_301_17 : List Instr := .iconst 0 :: .ireturn :: []
theorem fl_301_2 : m_fl (s_301.drop 2) = k_301_17 := rfl
noncomputable def k_301_15 : List Instr := .iconst 1 :: .ireturn :: k_301_17
theorem fl_301_1 : m_fl (s_301.drop 1) = k_301_15 := (show m_fl (s_301.drop 1) = [.iconst 1, .ireturn] ++ m_fl (s_301.drop 2) from rfl).trans (by rw [fl_301_2]; rfl)
noncomputable def k_301_0 : List Instr := .aload 3 :: .iconst 0 :: .aload 0 :: .iload 1 :: .iload 2 :: .invokevirtual 134 :: .i2l :: .lastore :: .goto 17 :: .nop :: k_301_15
theorem fl_301_0 : m_fl (s_301.drop 0) = k_301_0 := (show m_fl (s_301.drop 0) = [.aload 3, .iconst 0, .aload 0, .iload 1, .iload 2, .invokevirtual 134, .i2l, .lastore, .goto 17, .nop] ++ m_fl (s_301.drop 1) from rfl).trans (by rw [fl_301_1]; rfl)
theorem tn_301_0 {L : Nat} {xs : Nat → Int32} : m_tg (p_P L xs) 301 0 = k_301_0 := (show m_tgl s_301 0 = m_fl (s_301.drop 0) from rfl).trans fl_301_0
theorem tn_301_15 {L : Nat} {xs : Nat → Int32} : m_tg (p_P L xs) 301 15 = k_301_15 := (show m_tgl s_301 15 = m_fl (s_301.drop 1) from rfl).trans fl_301_1
theorem tg_301_15 {L : Nat} {xs : Nat → Int32} : m_tg (p_P L xs) 301 15 = k_301_15 := (show m_tgl s_301 15 = m_fl (s_301.drop 1) from rfl).trans fl_301_1
theorem tg_301_17 {L : Nat} {xs : Nat → Int32} : m_tg (p_P L xs) 301 17 = k_301_17 := (show m_tgl s_301 17 = m_fl (s_301.drop 2) from rfl).trans fl_301_2
noncomputable def k_302_17 : List Instr := .iconst 0 :: .ireturn :: []
theorem fl_302_2 : m_fl (s_302.drop 2) = k_302_17 := rfl
noncomputable def k_302_15 : List Instr := .iconst 1 :: .ireturn :: k_302_17
theorem fl_302_1 : m_fl (s_302.drop 1) = k_302_15 := (show m_fl (s_302.drop 1) = [.iconst 1, .ireturn] ++ m_fl (s_302.drop 2) from rfl).trans (by rw [fl_302_2]; rfl)
noncomputable def k_302_0 : List Instr := .aload 3 :: .iconst 0 :: .aload 0 :: .iload 1 :: .iload 2 :: .invokevirtual 136 :: .i2l :: .lastore :: .goto 17 :: .nop :: k_302_15
theorem fl_302_0 : m_fl (s_302.drop 0) = k_302_0 := (show m_fl (s_302.drop 0) = [.aload 3, .iconst 0, .aload 0, .iload 1, .iload 2, .invokevirtual 136, .i2l, .lastore, .goto 17, .nop] ++ m_fl (s_302.drop 1) from rfl).trans (by rw [fl_302_1]; rfl)
theorem tn_302_0 {L : Nat} {xs : Nat → Int32} : m_tg (p_P L xs) 302 0 = k_302_0 := (show m_tgl s_302 0 = m_fl (s_302.drop 0) from rfl).trans fl_302_0
theorem tn_302_15 {L : Nat} {xs : Nat → Int32} : m_tg (p_P L xs) 302 15 = k_302_15 := (show m_tgl s_302 15 = m_fl (s_302.drop 1) from rfl).trans fl_302_1
theorem tg_302_15 {L : Nat} {xs : Nat → Int32} : m_tg (p_P L xs) 302 15 = k_302_15 := (show m_tgl s_302 15 = m_fl (s_302.drop 1) from rfl).trans fl_302_1
theorem tg_302_17 {L : Nat} {xs : Nat → Int32} : m_tg (p_P L xs) 302 17 = k_302_17 := (show m_tgl s_302 17 = m_fl (s_302.drop 2) from rfl).trans fl_302_2
noncomputable def k_303_14 : List Instr := .iconst 0 :: .ireturn :: []
theorem fl_303_2 : m_fl (s_303.drop 2) = k_303_14 := rfl
noncomputable def k_303_12 : List Instr := .iconst 1 :: .ireturn :: k_303_14
theorem fl_303_1 : m_fl (s_303.drop 1) = k_303_12 := (show m_fl (s_303.drop 1) = [.iconst 1, .ireturn] ++ m_fl (s_303.drop 2) from rfl).trans (by rw [fl_303_2]; rfl)
noncomputable def k_303_0 : List Instr := .aload 2 :: .iconst 0 :: .aload 0 :: .iload 1 :: .invokevirtual 138 :: .dastore :: .goto 14 :: .nop :: k_303_12
theorem fl_303_0 : m_fl (s_303.drop 0) = k_303_0 := (show m_fl (s_303.drop 0) = [.aload 2, .iconst 0, .aload 0, .iload 1, .invokevirtual 138, .dastore, .goto 14, .nop] ++ m_fl (s_303.drop 1) from rfl).trans (by rw [fl_303_1]; rfl)
theorem tn_303_0 {L : Nat} {xs : Nat → Int32} : m_tg (p_P L xs) 303 0 = k_303_0 := (show m_tgl s_303 0 = m_fl (s_303.drop 0) from rfl).trans fl_303_0
theorem tn_303_12 {L : Nat} {xs : Nat → Int32} : m_tg (p_P L xs) 303 12 = k_303_12 := (show m_tgl s_303 12 = m_fl (s_303.drop 1) from rfl).trans fl_303_1
theorem tg_303_12 {L : Nat} {xs : Nat → Int32} : m_tg (p_P L xs) 303 12 = k_303_12 := (show m_tgl s_303 12 = m_fl (s_303.drop 1) from rfl).trans fl_303_1
theorem tg_303_14 {L : Nat} {xs : Nat → Int32} : m_tg (p_P L xs) 303 14 = k_303_14 := (show m_tgl s_303 14 = m_fl (s_303.drop 2) from rfl).trans fl_303_2
noncomputable def k_304_15 : List Instr := .iconst 0 :: .ireturn :: []
theorem fl_304_2 : m_fl (s_304.drop 2) = k_304_15 := rfl
noncomputable def k_304_13 : List Instr := .iconst 1 :: .ireturn :: k_304_15
theorem fl_304_1 : m_fl (s_304.drop 1) = k_304_13 := (show m_fl (s_304.drop 1) = [.iconst 1, .ireturn] ++ m_fl (s_304.drop 2) from rfl).trans (by rw [fl_304_2]; rfl)
noncomputable def k_304_0 : List Instr := .aload 2 :: .iconst 0 :: .aload 0 :: .iload 1 :: .invokevirtual 139 :: .f2d :: .dastore :: .goto 15 :: .nop :: k_304_13
theorem fl_304_0 : m_fl (s_304.drop 0) = k_304_0 := (show m_fl (s_304.drop 0) = [.aload 2, .iconst 0, .aload 0, .iload 1, .invokevirtual 139, .f2d, .dastore, .goto 15, .nop] ++ m_fl (s_304.drop 1) from rfl).trans (by rw [fl_304_1]; rfl)
theorem tn_304_0 {L : Nat} {xs : Nat → Int32} : m_tg (p_P L xs) 304 0 = k_304_0 := (show m_tgl s_304 0 = m_fl (s_304.drop 0) from rfl).trans fl_304_0
theorem tn_304_13 {L : Nat} {xs : Nat → Int32} : m_tg (p_P L xs) 304 13 = k_304_13 := (show m_tgl s_304 13 = m_fl (s_304.drop 1) from rfl).trans fl_304_1
theorem tg_304_13 {L : Nat} {xs : Nat → Int32} : m_tg (p_P L xs) 304 13 = k_304_13 := (show m_tgl s_304 13 = m_fl (s_304.drop 1) from rfl).trans fl_304_1
theorem tg_304_15 {L : Nat} {xs : Nat → Int32} : m_tg (p_P L xs) 304 15 = k_304_15 := (show m_tgl s_304 15 = m_fl (s_304.drop 2) from rfl).trans fl_304_2
noncomputable def k_305_15 : List Instr := .iconst 0 :: .ireturn :: []
theorem fl_305_2 : m_fl (s_305.drop 2) = k_305_15 := rfl
noncomputable def k_305_13 : List Instr := .iconst 1 :: .ireturn :: k_305_15
theorem fl_305_1 : m_fl (s_305.drop 1) = k_305_13 := (show m_fl (s_305.drop 1) = [.iconst 1, .ireturn] ++ m_fl (s_305.drop 2) from rfl).trans (by rw [fl_305_2]; rfl)
noncomputable def k_305_0 : List Instr := .aload 2 :: .iconst 0 :: .aload 0 :: .iload 1 :: .invokevirtual 140 :: .i2l :: .lastore :: .goto 15 :: .nop :: k_305_13
theorem fl_305_0 : m_fl (s_305.drop 0) = k_305_0 := (show m_fl (s_305.drop 0) = [.aload 2, .iconst 0, .aload 0, .iload 1, .invokevirtual 140, .i2l, .lastore, .goto 15, .nop] ++ m_fl (s_305.drop 1) from rfl).trans (by rw [fl_305_1]; rfl)
theorem tn_305_0 {L : Nat} {xs : Nat → Int32} : m_tg (p_P L xs) 305 0 = k_305_0 := (show m_tgl s_305 0 = m_fl (s_305.drop 0) from rfl).trans fl_305_0
theorem tn_305_13 {L : Nat} {xs : Nat → Int32} : m_tg (p_P L xs) 305 13 = k_305_13 := (show m_tgl s_305 13 = m_fl (s_305.drop 1) from rfl).trans fl_305_1
theorem tg_305_13 {L : Nat} {xs : Nat → Int32} : m_tg (p_P L xs) 305 13 = k_305_13 := (show m_tgl s_305 13 = m_fl (s_305.drop 1) from rfl).trans fl_305_1
theorem tg_305_15 {L : Nat} {xs : Nat → Int32} : m_tg (p_P L xs) 305 15 = k_305_15 := (show m_tgl s_305 15 = m_fl (s_305.drop 2) from rfl).trans fl_305_2
noncomputable def k_306_15 : List Instr := .iconst 0 :: .ireturn :: []
theorem fl_306_2 : m_fl (s_306.drop 2) = k_306_15 := rfl
noncomputable def k_306_13 : List Instr := .iconst 1 :: .ireturn :: k_306_15
theorem fl_306_1 : m_fl (s_306.drop 1) = k_306_13 := (show m_fl (s_306.drop 1) = [.iconst 1, .ireturn] ++ m_fl (s_306.drop 2) from rfl).trans (by rw [fl_306_2]; rfl)
noncomputable def k_306_0 : List Instr := .aload 2 :: .iconst 0 :: .aload 0 :: .iload 1 :: .invokevirtual 141 :: .i2l :: .lastore :: .goto 15 :: .nop :: k_306_13
theorem fl_306_0 : m_fl (s_306.drop 0) = k_306_0 := (show m_fl (s_306.drop 0) = [.aload 2, .iconst 0, .aload 0, .iload 1, .invokevirtual 141, .i2l, .lastore, .goto 15, .nop] ++ m_fl (s_306.drop 1) from rfl).trans (by rw [fl_306_1]; rfl)
theorem tn_306_0 {L : Nat} {xs : Nat → Int32} : m_tg (p_P L xs) 306 0 = k_306_0 := (show m_tgl s_306 0 = m_fl (s_306.drop 0) from rfl).trans fl_306_0
theorem tn_306_13 {L : Nat} {xs : Nat → Int32} : m_tg (p_P L xs) 306 13 = k_306_13 := (show m_tgl s_306 13 = m_fl (s_306.drop 1) from rfl).trans fl_306_1
theorem tg_306_13 {L : Nat} {xs : Nat → Int32} : m_tg (p_P L xs) 306 13 = k_306_13 := (show m_tgl s_306 13 = m_fl (s_306.drop 1) from rfl).trans fl_306_1
theorem tg_306_15 {L : Nat} {xs : Nat → Int32} : m_tg (p_P L xs) 306 15 = k_306_15 := (show m_tgl s_306 15 = m_fl (s_306.drop 2) from rfl).trans fl_306_2
noncomputable def k_307_15 : List Instr := .iconst 0 :: .ireturn :: []
theorem fl_307_2 : m_fl (s_307.drop 2) = k_307_15 := rfl
noncomputable def k_307_13 : List Instr := .iconst 1 :: .ireturn :: k_307_15
theorem fl_307_1 : m_fl (s_307.drop 1) = k_307_13 := (show m_fl (s_307.drop 1) = [.iconst 1, .ireturn] ++ m_fl (s_307.drop 2) from rfl).trans (by rw [fl_307_2]; rfl)
noncomputable def k_307_0 : List Instr := .aload 2 :: .iconst 0 :: .aload 0 :: .iload 1 :: .invokevirtual 143 :: .i2l :: .lastore :: .goto 15 :: .nop :: k_307_13
theorem fl_307_0 : m_fl (s_307.drop 0) = k_307_0 := (show m_fl (s_307.drop 0) = [.aload 2, .iconst 0, .aload 0, .iload 1, .invokevirtual 143, .i2l, .lastore, .goto 15, .nop] ++ m_fl (s_307.drop 1) from rfl).trans (by rw [fl_307_1]; rfl)
theorem tn_307_0 {L : Nat} {xs : Nat → Int32} : m_tg (p_P L xs) 307 0 = k_307_0 := (show m_tgl s_307 0 = m_fl (s_307.drop 0) from rfl).trans fl_307_0
theorem tn_307_13 {L : Nat} {xs : Nat → Int32} : m_tg (p_P L xs) 307 13 = k_307_13 := (show m_tgl s_307 13 = m_fl (s_307.drop 1) from rfl).trans fl_307_1
theorem tg_307_13 {L : Nat} {xs : Nat → Int32} : m_tg (p_P L xs) 307 13 = k_307_13 := (show m_tgl s_307 13 = m_fl (s_307.drop 1) from rfl).trans fl_307_1
theorem tg_307_15 {L : Nat} {xs : Nat → Int32} : m_tg (p_P L xs) 307 15 = k_307_15 := (show m_tgl s_307 15 = m_fl (s_307.drop 2) from rfl).trans fl_307_2
noncomputable def k_308_15 : List Instr := .iconst 0 :: .ireturn :: []
theorem fl_308_2 : m_fl (s_308.drop 2) = k_308_15 := rfl
noncomputable def k_308_13 : List Instr := .iconst 1 :: .ireturn :: k_308_15
theorem fl_308_1 : m_fl (s_308.drop 1) = k_308_13 := (show m_fl (s_308.drop 1) = [.iconst 1, .ireturn] ++ m_fl (s_308.drop 2) from rfl).trans (by rw [fl_308_2]; rfl)
noncomputable def k_308_0 : List Instr := .aload 2 :: .iconst 0 :: .aload 0 :: .iload 1 :: .invokevirtual 148 :: .i2l :: .lastore :: .goto 15 :: .nop :: k_308_13
theorem fl_308_0 : m_fl (s_308.drop 0) = k_308_0 := (show m_fl (s_308.drop 0) = [.aload 2, .iconst 0, .aload 0, .iload 1, .invokevirtual 148, .i2l, .lastore, .goto 15, .nop] ++ m_fl (s_308.drop 1) from rfl).trans (by rw [fl_308_1]; rfl)
theorem tn_308_0 {L : Nat} {xs : Nat → Int32} : m_tg (p_P L xs) 308 0 = k_308_0 := (show m_tgl s_308 0 = m_fl (s_308.drop 0) from rfl).trans fl_308_0
theorem tn_308_13 {L : Nat} {xs : Nat → Int32} : m_tg (p_P L xs) 308 13 = k_308_13 := (show m_tgl s_308 13 = m_fl (s_308.drop 1) from rfl).trans fl_308_1
theorem tg_308_13 {L : Nat} {xs : Nat → Int32} : m_tg (p_P L xs) 308 13 = k_308_13 := (show m_tgl s_308 13 = m_fl (s_308.drop 1) from rfl).trans fl_308_1
theorem tg_308_15 {L : Nat} {xs : Nat → Int32} : m_tg (p_P L xs) 308 15 = k_308_15 := (show m_tgl s_308 15 = m_fl (s_308.drop 2) from rfl).trans fl_308_2
noncomputable def k_309_1470 : List Instr := .iconst 1 :: .ret 0 :: []
theorem fl_309_45 : m_fl (s_309.drop 45) = k_309_1470 := rfl
noncomputable def k_309_1464 : List Instr := .iinc 5 6 :: .goto 28 :: k_309_1470
theorem fl_309_44 : m_fl (s_309.drop 44) = k_309_1464 := (show m_fl (s_309.drop 44) = [.iinc 5 6, .goto 28] ++ m_fl (s_309.drop 45) from rfl).trans (by rw [fl_309_45]; rfl)
noncomputable def k_309_1436 : List Instr := .aload 1 :: .aload 0 :: .iload 5 :: .iconst 1 :: .iadd :: .iaload :: .aload 3 :: .invokestatic 308 :: .istore 6 :: .aload 2 :: .aload 0 :: .iload 5 :: .iconst 1 :: .iadd :: .iaload :: .invokevirtual 278 :: .istore 7 :: .goto 1464 :: k_309_1464
theorem fl_309_43 : m_fl (s_309.drop 43) = k_309_1436 := (show m_fl (s_309.drop 43) = [.aload 1, .aload 0, .iload 5, .iconst 1, .iadd, .iaload, .aload 3, .invokestatic 308, .istore 6, .aload 2, .aload 0, .iload 5, .iconst 1, .iadd, .iaload, .invokevirtual 278, .istore 7, .goto 1464] ++ m_fl (s_309.drop 44) from rfl).trans (by rw [fl_309_44]; rfl)
noncomputable def k_309_1423 : List Instr := .aload 1 :: .invokevirtual 147 :: .pop :: .aload 2 :: .invokevirtual 272 :: .pop :: .goto 1464 :: k_309_1436
theorem fl_309_42 : m_fl (s_309.drop 42) = k_309_1423 := (show m_fl (s_309.drop 42) = [.aload 1, .invokevirtual 147, .pop, .aload 2, .invokevirtual 272, .pop, .goto 1464] ++ m_fl (s_309.drop 43) from rfl).trans (by rw [fl_309_43]; rfl)
noncomputable def k_309_1412 : List Instr := .aload 1 :: .invokevirtual 146 :: .aload 2 :: .invokevirtual 271 :: .goto 1464 :: k_309_1423
theorem fl_309_41 : m_fl (s_309.drop 41) = k_309_1412 := (show m_fl (s_309.drop 41) = [.aload 1, .invokevirtual 146, .aload 2, .invokevirtual 271, .goto 1464] ++ m_fl (s_309.drop 42) from rfl).trans (by rw [fl_309_42]; rfl)
noncomputable def k_309_1399 : List Instr := .aload 1 :: .invokevirtual 145 :: .pop :: .aload 2 :: .invokevirtual 270 :: .pop :: .goto 1464 :: k_309_1412
theorem fl_309_40 : m_fl (s_309.drop 40) = k_309_1399 := (show m_fl (s_309.drop 40) = [.aload 1, .invokevirtual 145, .pop, .aload 2, .invokevirtual 270, .pop, .goto 1464] ++ m_fl (s_309.drop 41) from rfl).trans (by rw [fl_309_41]; rfl)
noncomputable def k_309_1386 : List Instr := .aload 1 :: .invokevirtual 144 :: .pop :: .aload 2 :: .invokevirtual 269 :: .pop :: .goto 1464 :: k_309_1399
theorem fl_309_39 : m_fl (s_309.drop 39) = k_309_1386 := (show m_fl (s_309.drop 39) = [.aload 1, .invokevirtual 144, .pop, .aload 2, .invokevirtual 269, .pop, .goto 1464] ++ m_fl (s_309.drop 40) from rfl).trans (by rw [fl_309_40]; rfl)
noncomputable def k_309_1358 : List Instr := .aload 1 :: .aload 0 :: .iload 5 :: .iconst 1 :: .iadd :: .iaload :: .aload 3 :: .invokestatic 307 :: .istore 6 :: .aload 2 :: .aload 0 :: .iload 5 :: .iconst 1 :: .iadd :: .iaload :: .invokevirtual 275 :: .istore 7 :: .goto 1464 :: k_309_1386
theorem fl_309_38 : m_fl (s_309.drop 38) = k_309_1358 := (show m_fl (s_309.drop 38) = [.aload 1, .aload 0, .iload 5, .iconst 1, .iadd, .iaload, .aload 3, .invokestatic 307, .istore 6, .aload 2, .aload 0, .iload 5, .iconst 1, .iadd, .iaload, .invokevirtual 275, .istore 7, .goto 1464] ++ m_fl (s_309.drop 39) from rfl).trans (by rw [fl_309_39]; rfl)
noncomputable def k_309_1330 : List Instr := .aload 1 :: .aload 0 :: .iload 5 :: .iconst 1 :: .iadd :: .iaload :: .aload 3 :: .invokestatic 306 :: .istore 6 :: .aload 2 :: .aload 0 :: .iload 5 :: .iconst 1 :: .iadd :: .iaload :: .invokevirtual 274 :: .istore 7 :: .goto 1464 :: k_309_1358
theorem fl_309_37 : m_fl (s_309.drop 37) = k_309_1330 := (show m_fl (s_309.drop 37) = [.aload 1, .aload 0, .iload 5, .iconst 1, .iadd, .iaload, .aload 3, .invokestatic 306, .istore 6, .aload 2, .aload 0, .iload 5, .iconst 1, .iadd, .iaload, .invokevirtual 274, .istore 7, .goto 1464] ++ m_fl (s_309.drop 38) from rfl).trans (by rw [fl_309_38]; rfl)
noncomputable def k_309_1302 : List Instr := .aload 1 :: .aload 0 :: .iload 5 :: .iconst 1 :: .iadd :: .iaload :: .aload 3 :: .invokestatic 305 :: .istore 6 :: .aload 2 :: .aload 0 :: .iload 5 :: .iconst 1 :: .iadd :: .iaload :: .invokevirtual 273 :: .istore 7 :: .goto 1464 :: k_309_1330
theorem fl_309_36 : m_fl (s_309.drop 36) = k_309_1302 := (show m_fl (s_309.drop 36) = [.aload 1, .aload 0, .iload 5, .iconst 1, .iadd, .iaload, .aload 3, .invokestatic 305, .istore 6, .aload 2, .aload 0, .iload 5, .iconst 1, .iadd, .iaload, .invokevirtual 273, .istore 7, .goto 1464] ++ m_fl (s_309.drop 37) from rfl).trans (by rw [fl_309_37]; rfl)
noncomputable def k_309_1273 : List Instr := .aload 1 :: .aload 0 :: .iload 5 :: .iconst 1 :: .iadd :: .iaload :: .aload 4 :: .invokestatic 304 :: .istore 6 :: .aload 2 :: .aload 0 :: .iload 5 :: .iconst 1 :: .iadd :: .iaload :: .invokevirtual 259 :: .fstore 7 :: .goto 1464 :: k_309_1302
theorem fl_309_35 : m_fl (s_309.drop 35) = k_309_1273 := (show m_fl (s_309.drop 35) = [.aload 1, .aload 0, .iload 5, .iconst 1, .iadd, .iaload, .aload 4, .invokestatic 304, .istore 6, .aload 2, .aload 0, .iload 5, .iconst 1, .iadd, .iaload, .invokevirtual 259, .fstore 7, .goto 1464] ++ m_fl (s_309.drop 36) from rfl).trans (by rw [fl_309_36]; rfl)
noncomputable def k_309_1244 : List Instr := .aload 1 :: .aload 0 :: .iload 5 :: .iconst 1 :: .iadd :: .iaload :: .aload 4 :: .invokestatic 303 :: .istore 6 :: .aload 2 :: .aload 0 :: .iload 5 :: .iconst 1 :: .iadd :: .iaload :: .invokevirtual 258 :: .dstore 7 :: .goto 1464 :: k_309_1273
theorem fl_309_34 : m_fl (s_309.drop 34) = k_309_1244 := (show m_fl (s_309.drop 34) = [.aload 1, .aload 0, .iload 5, .iconst 1, .iadd, .iaload, .aload 4, .invokestatic 303, .istore 6, .aload 2, .aload 0, .iload 5, .iconst 1, .iadd, .iaload, .invokevirtual 258, .dstore 7, .goto 1464] ++ m_fl (s_309.drop 35) from rfl).trans (by rw [fl_309_35]; rfl)
noncomputable def k_309_1219 : List Instr := .aload 1 :: .aload 0 :: .iload 5 :: .iconst 1 :: .iadd :: .iaload :: .invokevirtual 137 :: .pop :: .aload 2 :: .aload 0 :: .iload 5 :: .iconst 1 :: .iadd :: .iaload :: .invokevirtual 257 :: .pop :: .goto 1464 :: k_309_1244
theorem fl_309_33 : m_fl (s_309.drop 33) = k_309_1219 := (show m_fl (s_309.drop 33) = [.aload 1, .aload 0, .iload 5, .iconst 1, .iadd, .iaload, .invokevirtual 137, .pop, .aload 2, .aload 0, .iload 5, .iconst 1, .iadd, .iaload, .invokevirtual 257, .pop, .goto 1464] ++ m_fl (s_309.drop 34) from rfl).trans (by rw [fl_309_34]; rfl)
noncomputable def k_309_1179 : List Instr := .aload 1 :: .aload 0 :: .iload 5 :: .iconst 1 :: .iadd :: .iaload :: .aload 0 :: .iload 5 :: .iconst 2 :: .iadd :: .iaload :: .aload 3 :: .invokestatic 302 :: .istore 6 :: .aload 2 :: .aload 0 :: .iload 5 :: .iconst 1 :: .iadd :: .iaload :: .aload 0 :: .iload 5 :: .iconst 2 :: .iadd :: .iaload :: .invokevirtual 256 :: .istore 7 :: .goto 1464 :: k_309_1219
theorem fl_309_32 : m_fl (s_309.drop 32) = k_309_1179 := (show m_fl (s_309.drop 32) = [.aload 1, .aload 0, .iload 5, .iconst 1, .iadd, .iaload, .aload 0, .iload 5, .iconst 2, .iadd, .iaload, .aload 3, .invokestatic 302, .istore 6, .aload 2, .aload 0, .iload 5, .iconst 1, .iadd, .iaload, .aload 0, .iload 5, .iconst 2, .iadd, .iaload, .invokevirtual 256, .istore 7, .goto 1464] ++ m_fl (s_309.drop 33) from rfl).trans (by rw [fl_309_33]; rfl)
noncomputable def k_309_1166 : List Instr := .aload 1 :: .invokevirtual 135 :: .pop :: .aload 2 :: .invokevirtual 255 :: .pop :: .goto 1464 :: k_309_1179
theorem fl_309_31 : m_fl (s_309.drop 31) = k_309_1166 := (show m_fl (s_309.drop 31) = [.aload 1, .invokevirtual 135, .pop, .aload 2, .invokevirtual 255, .pop, .goto 1464] ++ m_fl (s_309.drop 32) from rfl).trans (by rw [fl_309_32]; rfl)
noncomputable def k_309_1126 : List Instr := .aload 1 :: .aload 0 :: .iload 5 :: .iconst 1 :: .iadd :: .iaload :: .aload 0 :: .iload 5 :: .iconst 2 :: .iadd :: .iaload :: .aload 3 :: .invokestatic 301 :: .istore 6 :: .aload 2 :: .aload 0 :: .iload 5 :: .iconst 1 :: .iadd :: .iaload :: .aload 0 :: .iload 5 :: .iconst 2 :: .iadd :: .iaload :: .invokevirtual 254 :: .istore 7 :: .goto 1464 :: k_309_1166
theorem fl_309_30 : m_fl (s_309.drop 30) = k_309_1126 := (show m_fl (s_309.drop 30) = [.aload 1, .aload 0, .iload 5, .iconst 1, .iadd, .iaload, .aload 0, .iload 5, .iconst 2, .iadd, .iaload, .aload 3, .invokestatic 301, .istore 6, .aload 2, .aload 0, .iload 5, .iconst 1, .iadd, .iaload, .aload 0, .iload 5, .iconst 2, .iadd, .iaload, .invokevirtual 254, .istore 7, .goto 1464] ++ m_fl (s_309.drop 31) from rfl).trans (by rw [fl_309_31]; rfl)
noncomputable def k_309_1098 : List Instr := .aload 1 :: .aload 0 :: .iload 5 :: .iconst 1 :: .iadd :: .iaload :: .aload 3 :: .invokestatic 300 :: .istore 6 :: .aload 2 :: .aload 0 :: .iload 5 :: .iconst 1 :: .iadd :: .iaload :: .invokevirtual 252 :: .istore 7 :: .goto 1464 :: k_309_1126
theorem fl_309_29 : m_fl (s_309.drop 29) = k_309_1098 := (show m_fl (s_309.drop 29) = [.aload 1, .aload 0, .iload 5, .iconst 1, .iadd, .iaload, .aload 3, .invokestatic 300, .istore 6, .aload 2, .aload 0, .iload 5, .iconst 1, .iadd, .iaload, .invokevirtual 252, .istore 7, .goto 1464] ++ m_fl (s_309.drop 30) from rfl).trans (by rw [fl_309_30]; rfl)
noncomputable def k_309_1070 : List Instr := .aload 1 :: .aload 0 :: .iload 5 :: .iconst 1 :: .iadd :: .iaload :: .aload 3 :: .invokestatic 299 :: .istore 6 :: .aload 2 :: .aload 0 :: .iload 5 :: .iconst 1 :: .iadd :: .iaload :: .invokevirtual 251 :: .istore 7 :: .goto 1464 :: k_309_1098
theorem fl_309_28 : m_fl (s_309.drop 28) = k_309_1070 := (show m_fl (s_309.drop 28) = [.aload 1, .aload 0, .iload 5, .iconst 1, .iadd, .iaload, .aload 3, .invokestatic 299, .istore 6, .aload 2, .aload 0, .iload 5, .iconst 1, .iadd, .iaload, .invokevirtual 251, .istore 7, .goto 1464] ++ m_fl (s_309.drop 29) from rfl).trans (by rw [fl_309_29]; rfl)
noncomputable def k_309_1042 : List Instr := .aload 1 :: .aload 0 :: .iload 5 :: .iconst 1 :: .iadd :: .iaload :: .aload 3 :: .invokestatic 298 :: .istore 6 :: .aload 2 :: .aload 0 :: .iload 5 :: .iconst 1 :: .iadd :: .iaload :: .invokevirtual 250 :: .istore 7 :: .goto 1464 :: k_309_1070
theorem fl_309_27 : m_fl (s_309.drop 27) = k_309_1042 := (show m_fl (s_309.drop 27) = [.aload 1, .aload 0, .iload 5, .iconst 1, .iadd, .iaload, .aload 3, .invokestatic 298, .istore 6, .aload 2, .aload 0, .iload 5, .iconst 1, .iadd, .iaload, .invokevirtual 250, .istore 7, .goto 1464] ++ m_fl (s_309.drop 28) from rfl).trans (by rw [fl_309_28]; rfl)
noncomputable def k_309_1002 : List Instr := .aload 1 :: .aload 0 :: .iload 5 :: .iconst 1 :: .iadd :: .iaload :: .aload 0 :: .iload 5 :: .iconst 2 :: .iadd :: .iaload :: .aload 3 :: .invokestatic 297 :: .istore 6 :: .aload 2 :: .aload 0 :: .iload 5 :: .iconst 1 :: .iadd :: .iaload :: .aload 0 :: .iload 5 :: .iconst 2 :: .iadd :: .iaload :: .invokevirtual 249 :: .istore 7 :: .goto 1464 :: k_309_1042
theorem fl_309_26 : m_fl (s_309.drop 26) = k_309_1002 := (show m_fl (s_309.drop 26) = [.aload 1, .aload 0, .iload 5, .iconst 1, .iadd, .iaload, .aload 0, .iload 5, .iconst 2, .iadd, .iaload, .aload 3, .invokestatic 297, .istore 6, .aload 2, .aload 0, .iload 5, .iconst 1, .iadd, .iaload, .aload 0, .iload 5, .iconst 2, .iadd, .iaload, .invokevirtual 249, .istore 7, .goto 1464] ++ m_fl (s_309.drop 27) from rfl).trans (by rw [fl_309_27]; rfl)
noncomputable def k_309_974 : List Instr := .aload 1 :: .aload 0 :: .iload 5 :: .iconst 1 :: .iadd :: .iaload :: .aload 3 :: .invokestatic 296 :: .istore 6 :: .aload 2 :: .aload 0 :: .iload 5 :: .iconst 1 :: .iadd :: .iaload :: .invokevirtual 248 :: .istore 7 :: .goto 1464 :: k_309_1002
theorem fl_309_25 : m_fl (s_309.drop 25) = k_309_974 := (show m_fl (s_309.drop 25) = [.aload 1, .aload 0, .iload 5, .iconst 1, .iadd, .iaload, .aload 3, .invokestatic 296, .istore 6, .aload 2, .aload 0, .iload 5, .iconst 1, .iadd, .iaload, .invokevirtual 248, .istore 7, .goto 1464] ++ m_fl (s_309.drop 26) from rfl).trans (by rw [fl_309_26]; rfl)
noncomputable def k_309_934 : List Instr := .aload 1 :: .aload 0 :: .iload 5 :: .iconst 1 :: .iadd :: .iaload :: .aload 0 :: .iload 5 :: .iconst 2 :: .iadd :: .iaload :: .aload 3 :: .invokestatic 295 :: .istore 6 :: .aload 2 :: .aload 0 :: .iload 5 :: .iconst 1 :: .iadd :: .iaload :: .aload 0 :: .iload 5 :: .iconst 2 :: .iadd :: .iaload :: .invokevirtual 247 :: .istore 7 :: .goto 1464 :: k_309_974
theorem fl_309_24 : m_fl (s_309.drop 24) = k_309_934 := (show m_fl (s_309.drop 24) = [.aload 1, .aload 0, .iload 5, .iconst 1, .iadd, .iaload, .aload 0, .iload 5, .iconst 2, .iadd, .iaload, .aload 3, .invokestatic 295, .istore 6, .aload 2, .aload 0, .iload 5, .iconst 1, .iadd, .iaload, .aload 0, .iload 5, .iconst 2, .iadd, .iaload, .invokevirtual 247, .istore 7, .goto 1464] ++ m_fl (s_309.drop 25) from rfl).trans (by rw [fl_309_25]; rfl)
noncomputable def k_309_894 : List Instr := .aload 1 :: .aload 0 :: .iload 5 :: .iconst 1 :: .iadd :: .iaload :: .aload 0 :: .iload 5 :: .iconst 2 :: .iadd :: .iaload :: .aload 3 :: .invokestatic 294 :: .istore 6 :: .aload 2 :: .aload 0 :: .iload 5 :: .iconst 1 :: .iadd :: .iaload :: .aload 0 :: .iload 5 :: .iconst 2 :: .iadd :: .iaload :: .invokevirtual 246 :: .istore 7 :: .goto 1464 :: k_309_934
theorem fl_309_23 : m_fl (s_309.drop 23) = k_309_894 := (show m_fl (s_309.drop 23) = [.aload 1, .aload 0, .iload 5, .iconst 1, .iadd, .iaload, .aload 0, .iload 5, .iconst 2, .iadd, .iaload, .aload 3, .invokestatic 294, .istore 6, .aload 2, .aload 0, .iload 5, .iconst 1, .iadd, .iaload, .aload 0, .iload 5, .iconst 2, .iadd, .iaload, .invokevirtual 246, .istore 7, .goto 1464] ++ m_fl (s_309.drop 24) from rfl).trans (by rw [fl_309_24]; rfl)
noncomputable def k_309_854 : List Instr := .aload 1 :: .aload 0 :: .iload 5 :: .iconst 1 :: .iadd :: .iaload :: .aload 0 :: .iload 5 :: .iconst 2 :: .iadd :: .iaload :: .aload 3 :: .invokestatic 293 :: .istore 6 :: .aload 2 :: .aload 0 :: .iload 5 :: .iconst 1 :: .iadd :: .iaload :: .aload 0 :: .iload 5 :: .iconst 2 :: .iadd :: .iaload :: .invokevirtual 245 :: .istore 7 :: .goto 1464 :: k_309_894
theorem fl_309_22 : m_fl (s_309.drop 22) = k_309_854 := (show m_fl (s_309.drop 22) = [.aload 1, .aload 0, .iload 5, .iconst 1, .iadd, .iaload, .aload 0, .iload 5, .iconst 2, .iadd, .iaload, .aload 3, .invokestatic 293, .istore 6, .aload 2, .aload 0, .iload 5, .iconst 1, .iadd, .iaload, .aload 0, .iload 5, .iconst 2, .iadd, .iaload, .invokevirtual 245, .istore 7, .goto 1464] ++ m_fl (s_309.drop 23) from rfl).trans (by rw [fl_309_23]; rfl)
noncomputable def k_309_826 : List Instr := .aload 1 :: .aload 0 :: .iload 5 :: .iconst 1 :: .iadd :: .iaload :: .aload 3 :: .invokestatic 292 :: .istore 6 :: .aload 2 :: .aload 0 :: .iload 5 :: .iconst 1 :: .iadd :: .iaload :: .invokevirtual 244 :: .istore 7 :: .goto 1464 :: k_309_854
theorem fl_309_21 : m_fl (s_309.drop 21) = k_309_826 := (show m_fl (s_309.drop 21) = [.aload 1, .aload 0, .iload 5, .iconst 1, .iadd, .iaload, .aload 3, .invokestatic 292, .istore 6, .aload 2, .aload 0, .iload 5, .iconst 1, .iadd, .iaload, .invokevirtual 244, .istore 7, .goto 1464] ++ m_fl (s_309.drop 22) from rfl).trans (by rw [fl_309_22]; rfl)
noncomputable def k_309_798 : List Instr := .aload 1 :: .aload 0 :: .iload 5 :: .iconst 1 :: .iadd :: .iaload :: .aload 3 :: .invokestatic 291 :: .istore 6 :: .aload 2 :: .aload 0 :: .iload 5 :: .iconst 1 :: .iadd :: .iaload :: .invokevirtual 243 :: .istore 7 :: .goto 1464 :: k_309_826
theorem fl_309_20 : m_fl (s_309.drop 20) = k_309_798 := (show m_fl (s_309.drop 20) = [.aload 1, .aload 0, .iload 5, .iconst 1, .iadd, .iaload, .aload 3, .invokestatic 291, .istore 6, .aload 2, .aload 0, .iload 5, .iconst 1, .iadd, .iaload, .invokevirtual 243, .istore 7, .goto 1464] ++ m_fl (s_309.drop 21) from rfl).trans (by rw [fl_309_21]; rfl)
noncomputable def k_309_770 : List Instr := .aload 1 :: .aload 0 :: .iload 5 :: .iconst 1 :: .iadd :: .iaload :: .aload 3 :: .invokestatic 290 :: .istore 6 :: .aload 2 :: .aload 0 :: .iload 5 :: .iconst 1 :: .iadd :: .iaload :: .invokevirtual 242 :: .istore 7 :: .goto 1464 :: k_309_798
theorem fl_309_19 : m_fl (s_309.drop 19) = k_309_770 := (show m_fl (s_309.drop 19) = [.aload 1, .aload 0, .iload 5, .iconst 1, .iadd, .iaload, .aload 3, .invokestatic 290, .istore 6, .aload 2, .aload 0, .iload 5, .iconst 1, .iadd, .iaload, .invokevirtual 242, .istore 7, .goto 1464] ++ m_fl (s_309.drop 20) from rfl).trans (by rw [fl_309_20]; rfl)
noncomputable def k_309_742 : List Instr := .aload 1 :: .aload 0 :: .iload 5 :: .iconst 1 :: .iadd :: .iaload :: .aload 3 :: .invokestatic 289 :: .istore 6 :: .aload 2 :: .aload 0 :: .iload 5 :: .iconst 1 :: .iadd :: .iaload :: .invokevirtual 268 :: .istore 7 :: .goto 1464 :: k_309_770
theorem fl_309_18 : m_fl (s_309.drop 18) = k_309_742 := (show m_fl (s_309.drop 18) = [.aload 1, .aload 0, .iload 5, .iconst 1, .iadd, .iaload, .aload 3, .invokestatic 289, .istore 6, .aload 2, .aload 0, .iload 5, .iconst 1, .iadd, .iaload, .invokevirtual 268, .istore 7, .goto 1464] ++ m_fl (s_309.drop 19) from rfl).trans (by rw [fl_309_19]; rfl)
noncomputable def k_309_690 : List Instr := .aload 1 :: .aload 0 :: .iload 5 :: .iconst 1 :: .iadd :: .iaload :: .aload 0 :: .iload 5 :: .iconst 2 :: .iadd :: .iaload :: .aload 0 :: .iload 5 :: .iconst 3 :: .iadd :: .iaload :: .aload 3 :: .invokestatic 288 :: .istore 6 :: .aload 2 :: .aload 0 :: .iload 5 :: .iconst 1 :: .iadd :: .iaload :: .aload 0 :: .iload 5 :: .iconst 2 :: .iadd :: .iaload :: .aload 0 :: .iload 5 :: .iconst 3 :: .iadd :: .iaload :: .invokevirtual 267 :: .istore 7 :: .goto 1464 :: k_309_742
theorem fl_309_17 : m_fl (s_309.drop 17) = k_309_690 := (show m_fl (s_309.drop 17) = [.aload 1, .aload 0, .iload 5, .iconst 1, .iadd, .iaload, .aload 0, .iload 5, .iconst 2, .iadd, .iaload, .aload 0, .iload 5, .iconst 3, .iadd, .iaload, .aload 3, .invokestatic 288, .istore 6, .aload 2, .aload 0, .iload 5, .iconst 1, .iadd, .iaload, .aload 0, .iload 5, .iconst 2, .iadd, .iaload, .aload 0, .iload 5, .iconst 3, .iadd, .iaload, .invokevirtual 267, .istore 7, .goto 1464] ++ m_fl (s_309.drop 18) from rfl).trans (by rw [fl_309_18]; rfl)
noncomputable def k_309_662 : List Instr := .aload 1 :: .aload 0 :: .iload 5 :: .iconst 1 :: .iadd :: .iaload :: .aload 3 :: .invokestatic 287 :: .istore 6 :: .aload 2 :: .aload 0 :: .iload 5 :: .iconst 1 :: .iadd :: .iaload :: .invokevirtual 266 :: .istore 7 :: .goto 1464 :: k_309_690
theorem fl_309_16 : m_fl (s_309.drop 16) = k_309_662 := (show m_fl (s_309.drop 16) = [.aload 1, .aload 0, .iload 5, .iconst 1, .iadd, .iaload, .aload 3, .invokestatic 287, .istore 6, .aload 2, .aload 0, .iload 5, .iconst 1, .iadd, .iaload, .invokevirtual 266, .istore 7, .goto 1464] ++ m_fl (s_309.drop 17) from rfl).trans (by rw [fl_309_17]; rfl)
noncomputable def k_309_634 : List Instr := .aload 1 :: .aload 0 :: .iload 5 :: .iconst 1 :: .iadd :: .iaload :: .aload 3 :: .invokestatic 286 :: .istore 6 :: .aload 2 :: .aload 0 :: .iload 5 :: .iconst 1 :: .iadd :: .iaload :: .invokevirtual 265 :: .istore 7 :: .goto 1464 :: k_309_662
theorem fl_309_15 : m_fl (s_309.drop 15) = k_309_634 := (show m_fl (s_309.drop 15) = [.aload 1, .aload 0, .iload 5, .iconst 1, .iadd, .iaload, .aload 3, .invokestatic 286, .istore 6, .aload 2, .aload 0, .iload 5, .iconst 1, .iadd, .iaload, .invokevirtual 265, .istore 7, .goto 1464] ++ m_fl (s_309.drop 16) from rfl).trans (by rw [fl_309_16]; rfl)
noncomputable def k_309_606 : List Instr := .aload 1 :: .aload 0 :: .iload 5 :: .iconst 1 :: .iadd :: .iaload :: .aload 3 :: .invokestatic 285 :: .istore 6 :: .aload 2 :: .aload 0 :: .iload 5 :: .iconst 1 :: .iadd :: .iaload :: .invokevirtual 264 :: .istore 7 :: .goto 1464 :: k_309_634
theorem fl_309_14 : m_fl (s_309.drop 14) = k_309_606 := (show m_fl (s_309.drop 14) = [.aload 1, .aload 0, .iload 5, .iconst 1, .iadd, .iaload, .aload 3, .invokestatic 285, .istore 6, .aload 2, .aload 0, .iload 5, .iconst 1, .iadd, .iaload, .invokevirtual 264, .istore 7, .goto 1464] ++ m_fl (s_309.drop 15) from rfl).trans (by rw [fl_309_15]; rfl)
noncomputable def k_309_554 : List Instr := .aload 1 :: .aload 0 :: .iload 5 :: .iconst 1 :: .iadd :: .iaload :: .aload 0 :: .iload 5 :: .iconst 2 :: .iadd :: .iaload :: .aload 0 :: .iload 5 :: .iconst 3 :: .iadd :: .iaload :: .aload 3 :: .invokestatic 284 :: .istore 6 :: .aload 2 :: .aload 0 :: .iload 5 :: .iconst 1 :: .iadd :: .iaload :: .aload 0 :: .iload 5 :: .iconst 2 :: .iadd :: .iaload :: .aload 0 :: .iload 5 :: .iconst 3 :: .iadd :: .iaload :: .invokevirtual 263 :: .istore 7 :: .goto 1464 :: k_309_606
theorem fl_309_13 : m_fl (s_309.drop 13) = k_309_554 := (show m_fl (s_309.drop 13) = [.aload 1, .aload 0, .iload 5, .iconst 1, .iadd, .iaload, .aload 0, .iload 5, .iconst 2, .iadd, .iaload, .aload 0, .iload 5, .iconst 3, .iadd, .iaload, .aload 3, .invokestatic 284, .istore 6, .aload 2, .aload 0, .iload 5, .iconst 1, .iadd, .iaload, .aload 0, .iload 5, .iconst 2, .iadd, .iaload, .aload 0, .iload 5, .iconst 3, .iadd, .iaload, .invokevirtual 263, .istore 7, .goto 1464] ++ m_fl (s_309.drop 14) from rfl).trans (by rw [fl_309_14]; rfl)
noncomputable def k_309_526 : List Instr := .aload 1 :: .aload 0 :: .iload 5 :: .iconst 1 :: .iadd :: .iaload :: .aload 3 :: .invokestatic 283 :: .istore 6 :: .aload 2 :: .aload 0 :: .iload 5 :: .iconst 1 :: .iadd :: .iaload :: .invokevirtual 262 :: .istore 7 :: .goto 1464 :: k_309_554
theorem fl_309_12 : m_fl (s_309.drop 12) = k_309_526 := (show m_fl (s_309.drop 12) = [.aload 1, .aload 0, .iload 5, .iconst 1, .iadd, .iaload, .aload 3, .invokestatic 283, .istore 6, .aload 2, .aload 0, .iload 5, .iconst 1, .iadd, .iaload, .invokevirtual 262, .istore 7, .goto 1464] ++ m_fl (s_309.drop 13) from rfl).trans (by rw [fl_309_13]; rfl)
noncomputable def k_309_450 : List Instr := .aload 1 :: .aload 0 :: .iload 5 :: .iconst 1 :: .iadd :: .iaload :: .aload 0 :: .iload 5 :: .iconst 2 :: .iadd :: .iaload :: .aload 0 :: .iload 5 :: .iconst 3 :: .iadd :: .iaload :: .aload 0 :: .iload 5 :: .iconst 4 :: .iadd :: .iaload :: .aload 0 :: .iload 5 :: .iconst 5 :: .iadd :: .iaload :: .aload 3 :: .invokestatic 282 :: .istore 6 :: .aload 2 :: .aload 0 :: .iload 5 :: .iconst 1 :: .iadd :: .iaload :: .aload 0 :: .iload 5 :: .iconst 2 :: .iadd :: .iaload :: .aload 0 :: .iload 5 :: .iconst 3 :: .iadd :: .iaload :: .aload 0 :: .iload 5 :: .iconst 4 :: .iadd :: .iaload :: .aload 0 :: .iload 5 :: .iconst 5 :: .iadd :: .iaload :: .invokevirtual 261 :: .istore 7 :: .goto 1464 :: k_309_526
theorem fl_309_11 : m_fl (s_309.drop 11) = k_309_450 := (show m_fl (s_309.drop 11) = [.aload 1, .aload 0, .iload 5, .iconst 1, .iadd, .iaload, .aload 0, .iload 5, .iconst 2, .iadd, .iaload, .aload 0, .iload 5, .iconst 3, .iadd, .iaload, .aload 0, .iload 5, .iconst 4, .iadd, .iaload, .aload 0, .iload 5, .iconst 5, .iadd, .iaload, .aload 3, .invokestatic 282, .istore 6, .aload 2, .aload 0, .iload 5, .iconst 1, .iadd, .iaload, .aload 0, .iload 5, .iconst 2, .iadd, .iaload, .aload 0, .iload 5, .iconst 3, .iadd, .iaload, .aload 0, .iload 5, .iconst 4, .iadd, .iaload, .aload 0, .iload 5, .iconst 5, .iadd, .iaload, .invokevirtual 261, .istore 7, .goto 1464] ++ m_fl (s_309.drop 12) from rfl).trans (by rw [fl_309_12]; rfl)
noncomputable def k_309_422 : List Instr := .aload 1 :: .aload 0 :: .iload 5 :: .iconst 1 :: .iadd :: .iaload :: .aload 3 :: .invokestatic 281 :: .istore 6 :: .aload 2 :: .aload 0 :: .iload 5 :: .iconst 1 :: .iadd :: .iaload :: .invokevirtual 240 :: .istore 7 :: .goto 1464 :: k_309_450
theorem fl_309_10 : m_fl (s_309.drop 10) = k_309_422 := (show m_fl (s_309.drop 10) = [.aload 1, .aload 0, .iload 5, .iconst 1, .iadd, .iaload, .aload 3, .invokestatic 281, .istore 6, .aload 2, .aload 0, .iload 5, .iconst 1, .iadd, .iaload, .invokevirtual 240, .istore 7, .goto 1464] ++ m_fl (s_309.drop 11) from rfl).trans (by rw [fl_309_11]; rfl)
noncomputable def k_309_394 : List Instr := .aload 1 :: .aload 0 :: .iload 5 :: .iconst 1 :: .iadd :: .iaload :: .aload 3 :: .invokestatic 280 :: .istore 6 :: .aload 2 :: .aload 0 :: .iload 5 :: .iconst 1 :: .iadd :: .iaload :: .invokevirtual 239 :: .istore 7 :: .goto 1464 :: k_309_422
theorem fl_309_9 : m_fl (s_309.drop 9) = k_309_394 := (show m_fl (s_309.drop 9) = [.aload 1, .aload 0, .iload 5, .iconst 1, .iadd, .iaload, .aload 3, .invokestatic 280, .istore 6, .aload 2, .aload 0, .iload 5, .iconst 1, .iadd, .iaload, .invokevirtual 239, .istore 7, .goto 1464] ++ m_fl (s_309.drop 10) from rfl).trans (by rw [fl_309_10]; rfl)
noncomputable def k_309_381 : List Instr := .aload 1 :: .invokevirtual 112 :: .pop :: .aload 2 :: .invokevirtual 238 :: .pop :: .goto 1464 :: k_309_394
theorem fl_309_8 : m_fl (s_309.drop 8) = k_309_381 := (show m_fl (s_309.drop 8) = [.aload 1, .invokevirtual 112, .pop, .aload 2, .invokevirtual 238, .pop, .goto 1464] ++ m_fl (s_309.drop 9) from rfl).trans (by rw [fl_309_9]; rfl)
noncomputable def k_309_368 : List Instr := .aload 1 :: .invokevirtual 111 :: .pop :: .aload 2 :: .invokevirtual 237 :: .pop :: .goto 1464 :: k_309_381
theorem fl_309_7 : m_fl (s_309.drop 7) = k_309_368 := (show m_fl (s_309.drop 7) = [.aload 1, .invokevirtual 111, .pop, .aload 2, .invokevirtual 237, .pop, .goto 1464] ++ m_fl (s_309.drop 8) from rfl).trans (by rw [fl_309_8]; rfl)
noncomputable def k_309_355 : List Instr := .aload 1 :: .invokevirtual 110 :: .pop :: .aload 2 :: .invokevirtual 236 :: .pop :: .goto 1464 :: k_309_368
theorem fl_309_6 : m_fl (s_309.drop 6) = k_309_355 := (show m_fl (s_309.drop 6) = [.aload 1, .invokevirtual 110, .pop, .aload 2, .invokevirtual 236, .pop, .goto 1464] ++ m_fl (s_309.drop 7) from rfl).trans (by rw [fl_309_7]; rfl)
noncomputable def k_309_342 : List Instr := .aload 1 :: .invokevirtual 109 :: .pop :: .aload 2 :: .invokevirtual 235 :: .pop :: .goto 1464 :: k_309_355
theorem fl_309_5 : m_fl (s_309.drop 5) = k_309_342 := (show m_fl (s_309.drop 5) = [.aload 1, .invokevirtual 109, .pop, .aload 2, .invokevirtual 235, .pop, .goto 1464] ++ m_fl (s_309.drop 6) from rfl).trans (by rw [fl_309_6]; rfl)
noncomputable def k_309_329 : List Instr := .aload 1 :: .invokevirtual 108 :: .aload 2 :: .invokevirtual 162 :: .if_icmp .eq 1464 :: .iconst 0 :: .ret 0 :: k_309_342
theorem fl_309_4 : m_fl (s_309.drop 4) = k_309_329 := (show m_fl (s_309.drop 4) = [.aload 1, .invokevirtual 108, .aload 2, .invokevirtual 162, .if_icmp .eq 1464, .iconst 0, .ret 0] ++ m_fl (s_309.drop 5) from rfl).trans (by rw [fl_309_5]; rfl)
noncomputable def k_309_301 : List Instr := .aload 1 :: .aload 0 :: .iload 5 :: .iconst 1 :: .iadd :: .iaload :: .aload 3 :: .invokestatic 279 :: .istore 6 :: .aload 2 :: .aload 0 :: .iload 5 :: .iconst 1 :: .iadd :: .iaload :: .invokevirtual 205 :: .istore 7 :: .goto 1464 :: k_309_329
theorem fl_309_3 : m_fl (s_309.drop 3) = k_309_301 := (show m_fl (s_309.drop 3) = [.aload 1, .aload 0, .iload 5, .iconst 1, .iadd, .iaload, .aload 3, .invokestatic 279, .istore 6, .aload 2, .aload 0, .iload 5, .iconst 1, .iadd, .iaload, .invokevirtual 205, .istore 7, .goto 1464] ++ m_fl (s_309.drop 4) from rfl).trans (by rw [fl_309_4]; rfl)
noncomputable def k_309_228 : List Instr := .aload 1 :: .aload 0 :: .iload 5 :: .iconst 1 :: .iadd :: .iaload :: .aload 0 :: .iload 5 :: .iconst 2 :: .iadd :: .iaload :: .aload 0 :: .iload 5 :: .iconst 3 :: .iadd :: .iaload :: .aload 0 :: .iload 5 :: .iconst 4 :: .iadd :: .iaload :: .aload 0 :: .iload 5 :: .iconst 5 :: .iadd :: .iaload :: .invokevirtual 105 :: .pop :: .aload 2 :: .aload 0 :: .iload 5 :: .iconst 1 :: .iadd :: .iaload :: .aload 0 :: .iload 5 :: .iconst 2 :: .iadd :: .iaload :: .aload 0 :: .iload 5 :: .iconst 3 :: .iadd :: .iaload :: .aload 0 :: .iload 5 :: .iconst 4 :: .iadd :: .iaload :: .aload 0 :: .iload 5 :: .iconst 5 :: .iadd :: .iaload :: .invokevirtual 161 :: .pop :: .goto 1464 :: k_309_301
theorem fl_309_2 : m_fl (s_309.drop 2) = k_309_228 := (show m_fl (s_309.drop 2) = [.aload 1, .aload 0, .iload 5, .iconst 1, .iadd, .iaload, .aload 0, .iload 5, .iconst 2, .iadd, .iaload, .aload 0, .iload 5, .iconst 3, .iadd, .iaload, .aload 0, .iload 5, .iconst 4, .iadd, .iaload, .aload 0, .iload 5, .iconst 5, .iadd, .iaload, .invokevirtual 105, .pop, .aload 2, .aload 0, .iload 5, .iconst 1, .iadd, .iaload, .aload 0, .iload 5, .iconst 2, .iadd, .iaload, .aload 0, .iload 5, .iconst 3, .iadd, .iaload, .aload 0, .iload 5, .iconst 4, .iadd, .iaload, .aload 0, .iload 5, .iconst 5, .iadd, .iaload, .invokevirtual 161, .pop, .goto 1464] ++ m_fl (s_309.drop 3) from rfl).trans (by rw [fl_309_3]; rfl)
noncomputable def k_309_28 : List Instr := .iload 5 :: .aload 0 :: .ldc_w 100 :: .iconst 6 :: .isub :: .if_icmp .gt 1470 :: .aload 0 :: .iload 5 :: .iaload :: .iconst 63 :: .iand :: .tableswitch 1464 0 41 #[228, 301, 329, 342, 355, 368, 381, 394, 422, 450, 526, 554, 606, 634, 662, 690, 742, 770, 798, 826, 854, 894, 934, 974, 1002, 1042, 1070, 1098, 1126, 1166, 1179, 1219, 1244, 1273, 1302, 1330, 1358, 1386, 1399, 1412, 1423, 1436] :: k_309_228
theorem fl_309_1 : m_fl (s_309.drop 1) = k_309_28 := (show m_fl (s_309.drop 1) = [.iload 5, .aload 0, .ldc_w 100, .iconst 6, .isub, .if_icmp .gt 1470, .aload 0, .iload 5, .iaload, .iconst 63, .iand, .tableswitch 1464 0 41 #[228, 301, 329, 342, 355, 368, 381, 394, 422, 450, 526, 554, 606, 634, 662, 690, 742, 770, 798, 826, 854, 894, 934, 974, 1002, 1042, 1070, 1098, 1126, 1166, 1179, 1219, 1244, 1273, 1302, 1330, 1358, 1386, 1399, 1412, 1423, 1436]] ++ m_fl (s_309.drop 2) from rfl).trans (by rw [fl_309_2]; rfl)
noncomputable def k_309_0 : List Instr := .new 11 :: .dup :: .invokespecial 104 :: .astore 1 :: .new 12 :: .dup :: .invokespecial 152 :: .astore 2 :: .iconst 1 :: .newarray .long :: .astore 3 :: .iconst 1 :: .newarray .double :: .astore 4 :: .iconst 0 :: .istore 5 :: k_309_28
theorem fl_309_0 : m_fl (s_309.drop 0) = k_309_0 := (show m_fl (s_309.drop 0) = [.new 11, .dup, .invokespecial 104, .astore 1, .new 12, .dup, .invokespecial 152, .astore 2, .iconst 1, .newarray .long, .astore 3, .iconst 1, .newarray .double, .astore 4, .iconst 0, .istore 5] ++ m_fl (s_309.drop 1) from rfl).trans (by rw [fl_309_1]; rfl)
theorem tn_309_0 {L : Nat} {xs : Nat → Int32} : m_tg (p_P L xs) 309 0 = k_309_0 := (show m_tgl s_309 0 = m_fl (s_309.drop 0) from rfl).trans fl_309_0
set_option maxRecDepth 100000 in
theorem tg_309_28 {L : Nat} {xs : Nat → Int32} : m_tg (p_P L xs) 309 28 = k_309_28 := (show m_tgl s_309 28 = m_fl (s_309.drop 1) from rfl).trans fl_309_1
set_option maxRecDepth 100000 in
theorem tg_309_228 {L : Nat} {xs : Nat → Int32} : m_tg (p_P L xs) 309 228 = k_309_228 := (show m_tgl s_309 228 = m_fl (s_309.drop 2) from rfl).trans fl_309_2
set_option maxRecDepth 100000 in
theorem tg_309_301 {L : Nat} {xs : Nat → Int32} : m_tg (p_P L xs) 309 301 = k_309_301 := (show m_tgl s_309 301 = m_fl (s_309.drop 3) from rfl).trans fl_309_3
set_option maxRecDepth 100000 in
theorem tg_309_329 {L : Nat} {xs : Nat → Int32} : m_tg (p_P L xs) 309 329 = k_309_329 := (show m_tgl s_309 329 = m_fl (s_309.drop 4) from rfl).trans fl_309_4
set_option maxRecDepth 100000 in
theorem tg_309_342 {L : Nat} {xs : Nat → Int32} : m_tg (p_P L xs) 309 342 = k_309_342 := (show m_tgl s_309 342 = m_fl (s_309.drop 5) from rfl).trans fl_309_5
set_option maxRecDepth 100000 in
theorem tg_309_355 {L : Nat} {xs : Nat → Int32} : m_tg (p_P L xs) 309 355 = k_309_355 := (show m_tgl s_309 355 = m_fl (s_309.drop 6) from rfl).trans fl_309_6
set_option maxRecDepth 100000 in
theorem tg_309_368 {L : Nat} {xs : Nat → Int32} : m_tg (p_P L xs) 309 368 = k_309_368 := (show m_tgl s_309 368 = m_fl (s_309.drop 7) from rfl).trans fl_309_7
set_option maxRecDepth 100000 in
theorem tg_309_381 {L : Nat} {xs : Nat → Int32} : m_tg (p_P L xs) 309 381 = k_309_381 := (show m_tgl s_309 381 = m_fl (s_309.drop 8) from rfl).trans fl_309_8
set_option maxRecDepth 100000 in
theorem tg_309_394 {L : Nat} {xs : Nat → Int32} : m_tg (p_P L xs) 309 394 = k_309_394 := (show m_tgl s_309 394 = m_fl (s_309.drop 9) from rfl).trans fl_309_9
set_option maxRecDepth 100000 in
theorem tg_309_422 {L : Nat} {xs : Nat → Int32} : m_tg (p_P L xs) 309 422 = k_309_422 := (show m_tgl s_309 422 = m_fl (s_309.drop 10) from rfl).trans fl_309_10
set_option maxRecDepth 100000 in
theorem tg_309_450 {L : Nat} {xs : Nat → Int32} : m_tg (p_P L xs) 309 450 = k_309_450 := (show m_tgl s_309 450 = m_fl (s_309.drop 11) from rfl).trans fl_309_11
set_option maxRecDepth 100000 in
theorem tg_309_526 {L : Nat} {xs : Nat → Int32} : m_tg (p_P L xs) 309 526 = k_309_526 := (show m_tgl s_309 526 = m_fl (s_309.drop 12) from rfl).trans fl_309_12
set_option maxRecDepth 100000 in
theorem tg_309_554 {L : Nat} {xs : Nat → Int32} : m_tg (p_P L xs) 309 554 = k_309_554 := (show m_tgl s_309 554 = m_fl (s_309.drop 13) from rfl).trans fl_309_13
set_option maxRecDepth 100000 in
theorem tg_309_606 {L : Nat} {xs : Nat → Int32} : m_tg (p_P L xs) 309 606 = k_309_606 := (show m_tgl s_309 606 = m_fl (s_309.drop 14) from rfl).trans fl_309_14
set_option maxRecDepth 100000 in
theorem tg_309_634 {L : Nat} {xs : Nat → Int32} : m_tg (p_P L xs) 309 634 = k_309_634 := (show m_tgl s_309 634 = m_fl (s_309.drop 15) from rfl).trans fl_309_15
set_option maxRecDepth 100000 in
theorem tg_309_662 {L : Nat} {xs : Nat → Int32} : m_tg (p_P L xs) 309 662 = k_309_662 := (show m_tgl s_309 662 = m_fl (s_309.drop 16) from rfl).trans fl_309_16
set_option maxRecDepth 100000 in
theorem tg_309_690 {L : Nat} {xs : Nat → Int32} : m_tg (p_P L xs) 309 690 = k_309_690 := (show m_tgl s_309 690 = m_fl (s_309.drop 17) from rfl).trans fl_309_17
set_option maxRecDepth 100000 in
theorem tg_309_742 {L : Nat} {xs : Nat → Int32} : m_tg (p_P L xs) 309 742 = k_309_742 := (show m_tgl s_309 742 = m_fl (s_309.drop 18) from rfl).trans fl_309_18
set_option maxRecDepth 100000 in
theorem tg_309_770 {L : Nat} {xs : Nat → Int32} : m_tg (p_P L xs) 309 770 = k_309_770 := (show m_tgl s_309 770 = m_fl (s_309.drop 19) from rfl).trans fl_309_19
set_option maxRecDepth 100000 in
theorem tg_309_798 {L : Nat} {xs : Nat → Int32} : m_tg (p_P L xs) 309 798 = k_309_798 := (show m_tgl s_309 798 = m_fl (s_309.drop 20) from rfl).trans fl_309_20
set_option maxRecDepth 100000 in
theorem tg_309_826 {L : Nat} {xs : Nat → Int32} : m_tg (p_P L xs) 309 826 = k_309_826 := (show m_tgl s_309 826 = m_fl (s_309.drop 21) from rfl).trans fl_309_21
set_option maxRecDepth 100000 in
theorem tg_309_854 {L : Nat} {xs : Nat → Int32} : m_tg (p_P L xs) 309 854 = k_309_854 := (show m_tgl s_309 854 = m_fl (s_309.drop 22) from rfl).trans fl_309_22
set_option maxRecDepth 100000 in
theorem tg_309_894 {L : Nat} {xs : Nat → Int32} : m_tg (p_P L xs) 309 894 = k_309_894 := (show m_tgl s_309 894 = m_fl (s_309.drop 23) from rfl).trans fl_309_23
set_option maxRecDepth 100000 in
theorem tg_309_934 {L : Nat} {xs : Nat → Int32} : m_tg (p_P L xs) 309 934 = k_309_934 := (show m_tgl s_309 934 = m_fl (s_309.drop 24) from rfl).trans fl_309_24
set_option maxRecDepth 100000 in
theorem tg_309_974 {L : Nat} {xs : Nat → Int32} : m_tg (p_P L xs) 309 974 = k_309_974 := (show m_tgl s_309 974 = m_fl (s_309.drop 25) from rfl).trans fl_309_25
set_option maxRecDepth 100000 in
theorem tg_309_1002 {L : Nat} {xs : Nat → Int32} : m_tg (p_P L xs) 309 1002 = k_309_1002 := (show m_tgl s_309 1002 = m_fl (s_309.drop 26) from rfl).trans fl_309_26
set_option maxRecDepth 100000 in
theorem tg_309_1042 {L : Nat} {xs : Nat → Int32} : m_tg (p_P L xs) 309 1042 = k_309_1042 := (show m_tgl s_309 1042 = m_fl (s_309.drop 27) from rfl).trans fl_309_27
set_option maxRecDepth 100000 in
theorem tg_309_1070 {L : Nat} {xs : Nat → Int32} : m_tg (p_P L xs) 309 1070 = k_309_1070 := (show m_tgl s_309 1070 = m_fl (s_309.drop 28) from rfl).trans fl_309_28
set_option maxRecDepth 100000 in
theorem tg_309_1098 {L : Nat} {xs : Nat → Int32} : m_tg (p_P L xs) 309 1098 = k_309_1098 := (show m_tgl s_309 1098 = m_fl (s_309.drop 29) from rfl).trans fl_309_29
set_option maxRecDepth 100000 in
theorem tg_309_1126 {L : Nat} {xs : Nat → Int32} : m_tg (p_P L xs) 309 1126 = k_309_1126 := (show m_tgl s_309 1126 = m_fl (s_309.drop 30) from rfl).trans fl_309_30
set_option maxRecDepth 100000 in
theorem tg_309_1166 {L : Nat} {xs : Nat → Int32} : m_tg (p_P L xs) 309 1166 = k_309_1166 := (show m_tgl s_309 1166 = m_fl (s_309.drop 31) from rfl).trans fl_309_31
set_option maxRecDepth 100000 in
theorem tg_309_1179 {L : Nat} {xs : Nat → Int32} : m_tg (p_P L xs) 309 1179 = k_309_1179 := (show m_tgl s_309 1179 = m_fl (s_309.drop 32) from rfl).trans fl_309_32
set_option maxRecDepth 100000 in
theorem tg_309_1219 {L : Nat} {xs : Nat → Int32} : m_tg (p_P L xs) 309 1219 = k_309_1219 := (show m_tgl s_309 1219 = m_fl (s_309.drop 33) from rfl).trans fl_309_33
set_option maxRecDepth 100000 in
theorem tg_309_1244 {L : Nat} {xs : Nat → Int32} : m_tg (p_P L xs) 309 1244 = k_309_1244 := (show m_tgl s_309 1244 = m_fl (s_309.drop 34) from rfl).trans fl_309_34
set_option maxRecDepth 100000 in
theorem tg_309_1273 {L : Nat} {xs : Nat → Int32} : m_tg (p_P L xs) 309 1273 = k_309_1273 := (show m_tgl s_309 1273 = m_fl (s_309.drop 35) from rfl).trans fl_309_35
set_option maxRecDepth 100000 in
theorem tg_309_1302 {L : Nat} {xs : Nat → Int32} : m_tg (p_P L xs) 309 1302 = k_309_1302 := (show m_tgl s_309 1302 = m_fl (s_309.drop 36) from rfl).trans fl_309_36
set_option maxRecDepth 100000 in
theorem tg_309_1330 {L : Nat} {xs : Nat → Int32} : m_tg (p_P L xs) 309 1330 = k_309_1330 := (show m_tgl s_309 1330 = m_fl (s_309.drop 37) from rfl).trans fl_309_37
set_option maxRecDepth 100000 in
theorem tg_309_1358 {L : Nat} {xs : Nat → Int32} : m_tg (p_P L xs) 309 1358 = k_309_1358 := (show m_tgl s_309 1358 = m_fl (s_309.drop 38) from rfl).trans fl_309_38
set_option maxRecDepth 100000 in
theorem tg_309_1386 {L : Nat} {xs : Nat → Int32} : m_tg (p_P L xs) 309 1386 = k_309_1386 := (show m_tgl s_309 1386 = m_fl (s_309.drop 39) from rfl).trans fl_309_39
set_option maxRecDepth 100000 in
theorem tg_309_1399 {L : Nat} {xs : Nat → Int32} : m_tg (p_P L xs) 309 1399 = k_309_1399 := (show m_tgl s_309 1399 = m_fl (s_309.drop 40) from rfl).trans fl_309_40
set_option maxRecDepth 100000 in
theorem tg_309_1412 {L : Nat} {xs : Nat → Int32} : m_tg (p_P L xs) 309 1412 = k_309_1412 := (show m_tgl s_309 1412 = m_fl (s_309.drop 41) from rfl).trans fl_309_41
set_option maxRecDepth 100000 in
theorem tg_309_1423 {L : Nat} {xs : Nat → Int32} : m_tg (p_P L xs) 309 1423 = k_309_1423 := (show m_tgl s_309 1423 = m_fl (s_309.drop 42) from rfl).trans fl_309_42
set_option maxRecDepth 100000 in
theorem tg_309_1436 {L : Nat} {xs : Nat → Int32} : m_tg (p_P L xs) 309 1436 = k_309_1436 := (show m_tgl s_309 1436 = m_fl (s_309.drop 43) from rfl).trans fl_309_43
set_option maxRecDepth 100000 in
theorem tg_309_1464 {L : Nat} {xs : Nat → Int32} : m_tg (p_P L xs) 309 1464 = k_309_1464 := (show m_tgl s_309 1464 = m_fl (s_309.drop 44) from rfl).trans fl_309_44
set_option maxRecDepth 100000 in
theorem tg_309_1470 {L : Nat} {xs : Nat → Int32} : m_tg (p_P L xs) 309 1470 = k_309_1470 := (show m_tgl s_309 1470 = m_fl (s_309.drop 45) from rfl).trans fl_309_45
