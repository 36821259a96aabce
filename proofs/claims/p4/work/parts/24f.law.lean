/-! the law's own code, by stretches -/
set_option maxRecDepth 100000 in
theorem sg_0 : m_seg lkf_13 (p_TT 309) (p_INI 309) false (m_tgb s_309) p_rab (fun _ => false) (p_B 309) [.new 11, .dup, .invokespecial 104, .astore 1, .new 12, .dup, .invokespecial 152, .astore 2, .iconst 1, .newarray .long, .astore 3, .iconst 1, .newarray .double, .astore 4, .iconst 0, .istore 5] 0 = some 28 := by decide +kernel
set_option maxRecDepth 100000 in
theorem sg_1 : m_seg lkf_13 (p_TT 309) (p_INI 309) false (m_tgb s_309) p_rab (fun _ => false) (p_B 309) [.iload 5, .aload 0, .ldc_w 100, .iconst 6, .isub, .if_icmp .gt 1470, .aload 0, .iload 5, .iaload, .iconst 63, .iand, .tableswitch 1464 0 41 #[228, 301, 329, 342, 355, 368, 381, 394, 422, 450, 526, 554, 606, 634, 662, 690, 742, 770, 798, 826, 854, 894, 934, 974, 1002, 1042, 1070, 1098, 1126, 1166, 1179, 1219, 1244, 1273, 1302, 1330, 1358, 1386, 1399, 1412, 1423, 1436]] 28 = some 228 := by decide +kernel
set_option maxRecDepth 100000 in
theorem sg_2 : m_seg lkf_13 (p_TT 309) (p_INI 309) false (m_tgb s_309) p_rab (fun _ => false) (p_B 309) [.aload 1, .aload 0, .iload 5, .iconst 1, .iadd, .iaload, .aload 0, .iload 5, .iconst 2, .iadd, .iaload, .aload 0, .iload 5, .iconst 3, .iadd, .iaload, .aload 0, .iload 5, .iconst 4, .iadd, .iaload, .aload 0, .iload 5, .iconst 5, .iadd, .iaload, .invokevirtual 105, .pop, .aload 2, .aload 0, .iload 5, .iconst 1, .iadd, .iaload, .aload 0, .iload 5, .iconst 2, .iadd, .iaload, .aload 0, .iload 5, .iconst 3, .iadd, .iaload, .aload 0, .iload 5, .iconst 4, .iadd, .iaload, .aload 0, .iload 5, .iconst 5, .iadd, .iaload, .invokevirtual 161, .pop, .goto 1464] 228 = some 301 := by decide +kernel
set_option maxRecDepth 100000 in
theorem sg_3 : m_seg lkf_13 (p_TT 309) (p_INI 309) false (m_tgb s_309) p_rab (fun _ => false) (p_B 309) [.aload 1, .aload 0, .iload 5, .iconst 1, .iadd, .iaload, .aload 3, .invokestatic 279, .istore 6, .aload 2, .aload 0, .iload 5, .iconst 1, .iadd, .iaload, .invokevirtual 205, .istore 7, .goto 1464] 301 = some 329 := by decide +kernel
set_option maxRecDepth 100000 in
theorem sg_4 : m_seg lkf_13 (p_TT 309) (p_INI 309) false (m_tgb s_309) p_rab (fun _ => false) (p_B 309) [.aload 1, .invokevirtual 108, .aload 2, .invokevirtual 162, .if_icmp .eq 1464, .iconst 0, .ret 0] 329 = some 342 := by decide +kernel
set_option maxRecDepth 100000 in
theorem sg_5 : m_seg lkf_13 (p_TT 309) (p_INI 309) false (m_tgb s_309) p_rab (fun _ => false) (p_B 309) [.aload 1, .invokevirtual 109, .pop, .aload 2, .invokevirtual 235, .pop, .goto 1464] 342 = some 355 := by decide +kernel
set_option maxRecDepth 100000 in
theorem sg_6 : m_seg lkf_13 (p_TT 309) (p_INI 309) false (m_tgb s_309) p_rab (fun _ => false) (p_B 309) [.aload 1, .invokevirtual 110, .pop, .aload 2, .invokevirtual 236, .pop, .goto 1464] 355 = some 368 := by decide +kernel
set_option maxRecDepth 100000 in
theorem sg_7 : m_seg lkf_13 (p_TT 309) (p_INI 309) false (m_tgb s_309) p_rab (fun _ => false) (p_B 309) [.aload 1, .invokevirtual 111, .pop, .aload 2, .invokevirtual 237, .pop, .goto 1464] 368 = some 381 := by decide +kernel
set_option maxRecDepth 100000 in
theorem sg_8 : m_seg lkf_13 (p_TT 309) (p_INI 309) false (m_tgb s_309) p_rab (fun _ => false) (p_B 309) [.aload 1, .invokevirtual 112, .pop, .aload 2, .invokevirtual 238, .pop, .goto 1464] 381 = some 394 := by decide +kernel
set_option maxRecDepth 100000 in
theorem sg_9 : m_seg lkf_13 (p_TT 309) (p_INI 309) false (m_tgb s_309) p_rab (fun _ => false) (p_B 309) [.aload 1, .aload 0, .iload 5, .iconst 1, .iadd, .iaload, .aload 3, .invokestatic 280, .istore 6, .aload 2, .aload 0, .iload 5, .iconst 1, .iadd, .iaload, .invokevirtual 239, .istore 7, .goto 1464] 394 = some 422 := by decide +kernel
set_option maxRecDepth 100000 in
theorem sg_10 : m_seg lkf_13 (p_TT 309) (p_INI 309) false (m_tgb s_309) p_rab (fun _ => false) (p_B 309) [.aload 1, .aload 0, .iload 5, .iconst 1, .iadd, .iaload, .aload 3, .invokestatic 281, .istore 6, .aload 2, .aload 0, .iload 5, .iconst 1, .iadd, .iaload, .invokevirtual 240, .istore 7, .goto 1464] 422 = some 450 := by decide +kernel
set_option maxRecDepth 100000 in
theorem sg_11 : m_seg lkf_13 (p_TT 309) (p_INI 309) false (m_tgb s_309) p_rab (fun _ => false) (p_B 309) [.aload 1, .aload 0, .iload 5, .iconst 1, .iadd, .iaload, .aload 0, .iload 5, .iconst 2, .iadd, .iaload, .aload 0, .iload 5, .iconst 3, .iadd, .iaload, .aload 0, .iload 5, .iconst 4, .iadd, .iaload, .aload 0, .iload 5, .iconst 5, .iadd, .iaload, .aload 3, .invokestatic 282, .istore 6, .aload 2, .aload 0, .iload 5, .iconst 1, .iadd, .iaload, .aload 0, .iload 5, .iconst 2, .iadd, .iaload, .aload 0, .iload 5, .iconst 3, .iadd, .iaload, .aload 0, .iload 5, .iconst 4, .iadd, .iaload, .aload 0, .iload 5, .iconst 5, .iadd, .iaload, .invokevirtual 261, .istore 7, .goto 1464] 450 = some 526 := by decide +kernel
set_option maxRecDepth 100000 in
theorem sg_12 : m_seg lkf_13 (p_TT 309) (p_INI 309) false (m_tgb s_309) p_rab (fun _ => false) (p_B 309) [.aload 1, .aload 0, .iload 5, .iconst 1, .iadd, .iaload, .aload 3, .invokestatic 283, .istore 6, .aload 2, .aload 0, .iload 5, .iconst 1, .iadd, .iaload, .invokevirtual 262, .istore 7, .goto 1464] 526 = some 554 := by decide +kernel
set_option maxRecDepth 100000 in
theorem sg_13 : m_seg lkf_13 (p_TT 309) (p_INI 309) false (m_tgb s_309) p_rab (fun _ => false) (p_B 309) [.aload 1, .aload 0, .iload 5, .iconst 1, .iadd, .iaload, .aload 0, .iload 5, .iconst 2, .iadd, .iaload, .aload 0, .iload 5, .iconst 3, .iadd, .iaload, .aload 3, .invokestatic 284, .istore 6, .aload 2, .aload 0, .iload 5, .iconst 1, .iadd, .iaload, .aload 0, .iload 5, .iconst 2, .iadd, .iaload, .aload 0, .iload 5, .iconst 3, .iadd, .iaload, .invokevirtual 263, .istore 7, .goto 1464] 554 = some 606 := by decide +kernel
set_option maxRecDepth 100000 in
theorem sg_14 : m_seg lkf_13 (p_TT 309) (p_INI 309) false (m_tgb s_309) p_rab (fun _ => false) (p_B 309) [.aload 1, .aload 0, .iload 5, .iconst 1, .iadd, .iaload, .aload 3, .invokestatic 285, .istore 6, .aload 2, .aload 0, .iload 5, .iconst 1, .iadd, .iaload, .invokevirtual 264, .istore 7, .goto 1464] 606 = some 634 := by decide +kernel
set_option maxRecDepth 100000 in
theorem sg_15 : m_seg lkf_13 (p_TT 309) (p_INI 309) false (m_tgb s_309) p_rab (fun _ => false) (p_B 309) [.aload 1, .aload 0, .iload 5, .iconst 1, .iadd, .iaload, .aload 3, .invokestatic 286, .istore 6, .aload 2, .aload 0, .iload 5, .iconst 1, .iadd, .iaload, .invokevirtual 265, .istore 7, .goto 1464] 634 = some 662 := by decide +kernel
set_option maxRecDepth 100000 in
theorem sg_16 : m_seg lkf_13 (p_TT 309) (p_INI 309) false (m_tgb s_309) p_rab (fun _ => false) (p_B 309) [.aload 1, .aload 0, .iload 5, .iconst 1, .iadd, .iaload, .aload 3, .invokestatic 287, .istore 6, .aload 2, .aload 0, .iload 5, .iconst 1, .iadd, .iaload, .invokevirtual 266, .istore 7, .goto 1464] 662 = some 690 := by decide +kernel
set_option maxRecDepth 100000 in
theorem sg_17 : m_seg lkf_13 (p_TT 309) (p_INI 309) false (m_tgb s_309) p_rab (fun _ => false) (p_B 309) [.aload 1, .aload 0, .iload 5, .iconst 1, .iadd, .iaload, .aload 0, .iload 5, .iconst 2, .iadd, .iaload, .aload 0, .iload 5, .iconst 3, .iadd, .iaload, .aload 3, .invokestatic 288, .istore 6, .aload 2, .aload 0, .iload 5, .iconst 1, .iadd, .iaload, .aload 0, .iload 5, .iconst 2, .iadd, .iaload, .aload 0, .iload 5, .iconst 3, .iadd, .iaload, .invokevirtual 267, .istore 7, .goto 1464] 690 = some 742 := by decide +kernel
set_option maxRecDepth 100000 in
theorem sg_18 : m_seg lkf_13 (p_TT 309) (p_INI 309) false (m_tgb s_309) p_rab (fun _ => false) (p_B 309) [.aload 1, .aload 0, .iload 5, .iconst 1, .iadd, .iaload, .aload 3, .invokestatic 289, .istore 6, .aload 2, .aload 0, .iload 5, .iconst 1, .iadd, .iaload, .invokevirtual 268, .istore 7, .goto 1464] 742 = some 770 := by decide +kernel
set_option maxRecDepth 100000 in
theorem sg_19 : m_seg lkf_13 (p_TT 309) (p_INI 309) false (m_tgb s_309) p_rab (fun _ => false) (p_B 309) [.aload 1, .aload 0, .iload 5, .iconst 1, .iadd, .iaload, .aload 3, .invokestatic 290, .istore 6, .aload 2, .aload 0, .iload 5, .iconst 1, .iadd, .iaload, .invokevirtual 242, .istore 7, .goto 1464] 770 = some 798 := by decide +kernel
set_option maxRecDepth 100000 in
theorem sg_20 : m_seg lkf_13 (p_TT 309) (p_INI 309) false (m_tgb s_309) p_rab (fun _ => false) (p_B 309) [.aload 1, .aload 0, .iload 5, .iconst 1, .iadd, .iaload, .aload 3, .invokestatic 291, .istore 6, .aload 2, .aload 0, .iload 5, .iconst 1, .iadd, .iaload, .invokevirtual 243, .istore 7, .goto 1464] 798 = some 826 := by decide +kernel
set_option maxRecDepth 100000 in
theorem sg_21 : m_seg lkf_13 (p_TT 309) (p_INI 309) false (m_tgb s_309) p_rab (fun _ => false) (p_B 309) [.aload 1, .aload 0, .iload 5, .iconst 1, .iadd, .iaload, .aload 3, .invokestatic 292, .istore 6, .aload 2, .aload 0, .iload 5, .iconst 1, .iadd, .iaload, .invokevirtual 244, .istore 7, .goto 1464] 826 = some 854 := by decide +kernel
set_option maxRecDepth 100000 in
theorem sg_22 : m_seg lkf_13 (p_TT 309) (p_INI 309) false (m_tgb s_309) p_rab (fun _ => false) (p_B 309) [.aload 1, .aload 0, .iload 5, .iconst 1, .iadd, .iaload, .aload 0, .iload 5, .iconst 2, .iadd, .iaload, .aload 3, .invokestatic 293, .istore 6, .aload 2, .aload 0, .iload 5, .iconst 1, .iadd, .iaload, .aload 0, .iload 5, .iconst 2, .iadd, .iaload, .invokevirtual 245, .istore 7, .goto 1464] 854 = some 894 := by decide +kernel
set_option maxRecDepth 100000 in
theorem sg_23 : m_seg lkf_13 (p_TT 309) (p_INI 309) false (m_tgb s_309) p_rab (fun _ => false) (p_B 309) [.aload 1, .aload 0, .iload 5, .iconst 1, .iadd, .iaload, .aload 0, .iload 5, .iconst 2, .iadd, .iaload, .aload 3, .invokestatic 294, .istore 6, .aload 2, .aload 0, .iload 5, .iconst 1, .iadd, .iaload, .aload 0, .iload 5, .iconst 2, .iadd, .iaload, .invokevirtual 246, .istore 7, .goto 1464] 894 = some 934 := by decide +kernel
set_option maxRecDepth 100000 in
theorem sg_24 : m_seg lkf_13 (p_TT 309) (p_INI 309) false (m_tgb s_309) p_rab (fun _ => false) (p_B 309) [.aload 1, .aload 0, .iload 5, .iconst 1, .iadd, .iaload, .aload 0, .iload 5, .iconst 2, .iadd, .iaload, .aload 3, .invokestatic 295, .istore 6, .aload 2, .aload 0, .iload 5, .iconst 1, .iadd, .iaload, .aload 0, .iload 5, .iconst 2, .iadd, .iaload, .invokevirtual 247, .istore 7, .goto 1464] 934 = some 974 := by decide +kernel
set_option maxRecDepth 100000 in
theorem sg_25 : m_seg lkf_13 (p_TT 309) (p_INI 309) false (m_tgb s_309) p_rab (fun _ => false) (p_B 309) [.aload 1, .aload 0, .iload 5, .iconst 1, .iadd, .iaload, .aload 3, .invokestatic 296, .istore 6, .aload 2, .aload 0, .iload 5, .iconst 1, .iadd, .iaload, .invokevirtual 248, .istore 7, .goto 1464] 974 = some 1002 := by decide +kernel
set_option maxRecDepth 100000 in
theorem sg_26 : m_seg lkf_13 (p_TT 309) (p_INI 309) false (m_tgb s_309) p_rab (fun _ => false) (p_B 309) [.aload 1, .aload 0, .iload 5, .iconst 1, .iadd, .iaload, .aload 0, .iload 5, .iconst 2, .iadd, .iaload, .aload 3, .invokestatic 297, .istore 6, .aload 2, .aload 0, .iload 5, .iconst 1, .iadd, .iaload, .aload 0, .iload 5, .iconst 2, .iadd, .iaload, .invokevirtual 249, .istore 7, .goto 1464] 1002 = some 1042 := by decide +kernel
set_option maxRecDepth 100000 in
theorem sg_27 : m_seg lkf_13 (p_TT 309) (p_INI 309) false (m_tgb s_309) p_rab (fun _ => false) (p_B 309) [.aload 1, .aload 0, .iload 5, .iconst 1, .iadd, .iaload, .aload 3, .invokestatic 298, .istore 6, .aload 2, .aload 0, .iload 5, .iconst 1, .iadd, .iaload, .invokevirtual 250, .istore 7, .goto 1464] 1042 = some 1070 := by decide +kernel
set_option maxRecDepth 100000 in
theorem sg_28 : m_seg lkf_13 (p_TT 309) (p_INI 309) false (m_tgb s_309) p_rab (fun _ => false) (p_B 309) [.aload 1, .aload 0, .iload 5, .iconst 1, .iadd, .iaload, .aload 3, .invokestatic 299, .istore 6, .aload 2, .aload 0, .iload 5, .iconst 1, .iadd, .iaload, .invokevirtual 251, .istore 7, .goto 1464] 1070 = some 1098 := by decide +kernel
set_option maxRecDepth 100000 in
theorem sg_29 : m_seg lkf_13 (p_TT 309) (p_INI 309) false (m_tgb s_309) p_rab (fun _ => false) (p_B 309) [.aload 1, .aload 0, .iload 5, .iconst 1, .iadd, .iaload, .aload 3, .invokestatic 300, .istore 6, .aload 2, .aload 0, .iload 5, .iconst 1, .iadd, .iaload, .invokevirtual 252, .istore 7, .goto 1464] 1098 = some 1126 := by decide +kernel
set_option maxRecDepth 100000 in
theorem sg_30 : m_seg lkf_13 (p_TT 309) (p_INI 309) false (m_tgb s_309) p_rab (fun _ => false) (p_B 309) [.aload 1, .aload 0, .iload 5, .iconst 1, .iadd, .iaload, .aload 0, .iload 5, .iconst 2, .iadd, .iaload, .aload 3, .invokestatic 301, .istore 6, .aload 2, .aload 0, .iload 5, .iconst 1, .iadd, .iaload, .aload 0, .iload 5, .iconst 2, .iadd, .iaload, .invokevirtual 254, .istore 7, .goto 1464] 1126 = some 1166 := by decide +kernel
set_option maxRecDepth 100000 in
theorem sg_31 : m_seg lkf_13 (p_TT 309) (p_INI 309) false (m_tgb s_309) p_rab (fun _ => false) (p_B 309) [.aload 1, .invokevirtual 135, .pop, .aload 2, .invokevirtual 255, .pop, .goto 1464] 1166 = some 1179 := by decide +kernel
set_option maxRecDepth 100000 in
theorem sg_32 : m_seg lkf_13 (p_TT 309) (p_INI 309) false (m_tgb s_309) p_rab (fun _ => false) (p_B 309) [.aload 1, .aload 0, .iload 5, .iconst 1, .iadd, .iaload, .aload 0, .iload 5, .iconst 2, .iadd, .iaload, .aload 3, .invokestatic 302, .istore 6, .aload 2, .aload 0, .iload 5, .iconst 1, .iadd, .iaload, .aload 0, .iload 5, .iconst 2, .iadd, .iaload, .invokevirtual 256, .istore 7, .goto 1464] 1179 = some 1219 := by decide +kernel
set_option maxRecDepth 100000 in
theorem sg_33 : m_seg lkf_13 (p_TT 309) (p_INI 309) false (m_tgb s_309) p_rab (fun _ => false) (p_B 309) [.aload 1, .aload 0, .iload 5, .iconst 1, .iadd, .iaload, .invokevirtual 137, .pop, .aload 2, .aload 0, .iload 5, .iconst 1, .iadd, .iaload, .invokevirtual 257, .pop, .goto 1464] 1219 = some 1244 := by decide +kernel
set_option maxRecDepth 100000 in
theorem sg_34 : m_seg lkf_13 (p_TT 309) (p_INI 309) false (m_tgb s_309) p_rab (fun _ => false) (p_B 309) [.aload 1, .aload 0, .iload 5, .iconst 1, .iadd, .iaload, .aload 4, .invokestatic 303, .istore 6, .aload 2, .aload 0, .iload 5, .iconst 1, .iadd, .iaload, .invokevirtual 258, .dstore 7, .goto 1464] 1244 = some 1273 := by decide +kernel
set_option maxRecDepth 100000 in
theorem sg_35 : m_seg lkf_13 (p_TT 309) (p_INI 309) false (m_tgb s_309) p_rab (fun _ => false) (p_B 309) [.aload 1, .aload 0, .iload 5, .iconst 1, .iadd, .iaload, .aload 4, .invokestatic 304, .istore 6, .aload 2, .aload 0, .iload 5, .iconst 1, .iadd, .iaload, .invokevirtual 259, .fstore 7, .goto 1464] 1273 = some 1302 := by decide +kernel
set_option maxRecDepth 100000 in
theorem sg_36 : m_seg lkf_13 (p_TT 309) (p_INI 309) false (m_tgb s_309) p_rab (fun _ => false) (p_B 309) [.aload 1, .aload 0, .iload 5, .iconst 1, .iadd, .iaload, .aload 3, .invokestatic 305, .istore 6, .aload 2, .aload 0, .iload 5, .iconst 1, .iadd, .iaload, .invokevirtual 273, .istore 7, .goto 1464] 1302 = some 1330 := by decide +kernel
set_option maxRecDepth 100000 in
theorem sg_37 : m_seg lkf_13 (p_TT 309) (p_INI 309) false (m_tgb s_309) p_rab (fun _ => false) (p_B 309) [.aload 1, .aload 0, .iload 5, .iconst 1, .iadd, .iaload, .aload 3, .invokestatic 306, .istore 6, .aload 2, .aload 0, .iload 5, .iconst 1, .iadd, .iaload, .invokevirtual 274, .istore 7, .goto 1464] 1330 = some 1358 := by decide +kernel
set_option maxRecDepth 100000 in
theorem sg_38 : m_seg lkf_13 (p_TT 309) (p_INI 309) false (m_tgb s_309) p_rab (fun _ => false) (p_B 309) [.aload 1, .aload 0, .iload 5, .iconst 1, .iadd, .iaload, .aload 3, .invokestatic 307, .istore 6, .aload 2, .aload 0, .iload 5, .iconst 1, .iadd, .iaload, .invokevirtual 275, .istore 7, .goto 1464] 1358 = some 1386 := by decide +kernel
set_option maxRecDepth 100000 in
theorem sg_39 : m_seg lkf_13 (p_TT 309) (p_INI 309) false (m_tgb s_309) p_rab (fun _ => false) (p_B 309) [.aload 1, .invokevirtual 144, .pop, .aload 2, .invokevirtual 269, .pop, .goto 1464] 1386 = some 1399 := by decide +kernel
set_option maxRecDepth 100000 in
theorem sg_40 : m_seg lkf_13 (p_TT 309) (p_INI 309) false (m_tgb s_309) p_rab (fun _ => false) (p_B 309) [.aload 1, .invokevirtual 145, .pop, .aload 2, .invokevirtual 270, .pop, .goto 1464] 1399 = some 1412 := by decide +kernel
set_option maxRecDepth 100000 in
theorem sg_41 : m_seg lkf_13 (p_TT 309) (p_INI 309) false (m_tgb s_309) p_rab (fun _ => false) (p_B 309) [.aload 1, .invokevirtual 146, .aload 2, .invokevirtual 271, .goto 1464] 1412 = some 1423 := by decide +kernel
set_option maxRecDepth 100000 in
theorem sg_42 : m_seg lkf_13 (p_TT 309) (p_INI 309) false (m_tgb s_309) p_rab (fun _ => false) (p_B 309) [.aload 1, .invokevirtual 147, .pop, .aload 2, .invokevirtual 272, .pop, .goto 1464] 1423 = some 1436 := by decide +kernel
set_option maxRecDepth 100000 in
theorem sg_43 : m_seg lkf_13 (p_TT 309) (p_INI 309) false (m_tgb s_309) p_rab (fun _ => false) (p_B 309) [.aload 1, .aload 0, .iload 5, .iconst 1, .iadd, .iaload, .aload 3, .invokestatic 308, .istore 6, .aload 2, .aload 0, .iload 5, .iconst 1, .iadd, .iaload, .invokevirtual 278, .istore 7, .goto 1464] 1436 = some 1464 := by decide +kernel
set_option maxRecDepth 100000 in
theorem sg_44 : m_seg lkf_13 (p_TT 309) (p_INI 309) false (m_tgb s_309) p_rab (fun _ => false) (p_B 309) [.iinc 5 6, .goto 28] 1464 = some 1470 := by decide +kernel
set_option maxRecDepth 100000 in
theorem sg_45 : m_seg lkf_13 (p_TT 309) (p_INI 309) false (m_tgb s_309) p_rab (fun _ => false) (p_B 309) [.iconst 1, .ret 0] 1470 = some 1472 := by decide +kernel
