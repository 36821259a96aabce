/-! the law's own code, by stretches -/
set_option maxRecDepth 100000 in
theorem sg_0 : m_seg lkf_13 (p_TT 310) (p_INI 310) false (m_tgb s_310) p_rab (fun _ => false) (p_B 310) [.new 11, .dup, .invokespecial 104, .astore 1, .new 12, .dup, .invokespecial 152, .astore 2, .iconst 1, .newarray .long, .astore 3, .iconst 1, .newarray .double, .astore 4, .iconst 0, .istore 5] 0 = some 28 := by decide +kernel
set_option maxRecDepth 100000 in
theorem sg_1 : m_seg lkf_13 (p_TT 310) (p_INI 310) false (m_tgb s_310) p_rab (fun _ => false) (p_B 310) [.iload 5, .aload 0, .ldc_w 100, .iconst 6, .isub, .if_icmp .gt 1498, .aload 0, .iload 5, .iaload, .iconst 63, .iand, .tableswitch 1492 0 41 #[228, 301, 357, 370, 383, 396, 409, 422, 450, 478, 554, 582, 634, 662, 690, 718, 770, 798, 826, 854, 882, 922, 962, 1002, 1030, 1070, 1098, 1126, 1154, 1194, 1207, 1247, 1272, 1301, 1330, 1358, 1386, 1414, 1427, 1440, 1451, 1464]] 28 = some 228 := by decide +kernel
set_option maxRecDepth 100000 in
theorem sg_2 : m_seg lkf_13 (p_TT 310) (p_INI 310) false (m_tgb s_310) p_rab (fun _ => false) (p_B 310) [.aload 1, .aload 0, .iload 5, .iconst 1, .iadd, .iaload, .aload 0, .iload 5, .iconst 2, .iadd, .iaload, .aload 0, .iload 5, .iconst 3, .iadd, .iaload, .aload 0, .iload 5, .iconst 4, .iadd, .iaload, .aload 0, .iload 5, .iconst 5, .iadd, .iaload, .invokevirtual 105, .pop, .aload 2, .aload 0, .iload 5, .iconst 1, .iadd, .iaload, .aload 0, .iload 5, .iconst 2, .iadd, .iaload, .aload 0, .iload 5, .iconst 3, .iadd, .iaload, .aload 0, .iload 5, .iconst 4, .iadd, .iaload, .aload 0, .iload 5, .iconst 5, .iadd, .iaload, .invokevirtual 161, .pop, .goto 1492] 228 = some 301 := by decide +kernel
set_option maxRecDepth 100000 in
theorem sg_3 : m_seg lkf_13 (p_TT 310) (p_INI 310) false (m_tgb s_310) p_rab (fun _ => false) (p_B 310) [.aload 1, .aload 0, .iload 5, .iconst 1, .iadd, .iaload, .aload 3, .invokestatic 280, .istore 6, .aload 2, .aload 0, .iload 5, .iconst 1, .iadd, .iaload, .invokevirtual 205, .istore 7, .aload 2, .invokevirtual 279, .iload 6, .if_icmp .eq 337, .iconst 0, .ret 0] 301 = some 337 := by decide +kernel
set_option maxRecDepth 100000 in
theorem sg_4 : m_seg lkf_13 (p_TT 310) (p_INI 310) false (m_tgb s_310) p_rab (fun _ => false) (p_B 310) [.iload 6, .ifCond .ne 354, .aload 3, .iconst 0, .laload, .iload 7, .i2l, .lcmp, .ifCond .eq 354, .iconst 0, .ret 0] 337 = some 354 := by decide +kernel
set_option maxRecDepth 100000 in
theorem sg_5 : m_seg lkf_13 (p_TT 310) (p_INI 310) false (m_tgb s_310) p_rab (fun _ => false) (p_B 310) [.goto 1492] 354 = some 357 := by decide +kernel
set_option maxRecDepth 100000 in
theorem sg_6 : m_seg lkf_13 (p_TT 310) (p_INI 310) false (m_tgb s_310) p_rab (fun _ => false) (p_B 310) [.aload 1, .invokevirtual 108, .pop, .aload 2, .invokevirtual 162, .pop, .goto 1492] 357 = some 370 := by decide +kernel
set_option maxRecDepth 100000 in
theorem sg_7 : m_seg lkf_13 (p_TT 310) (p_INI 310) false (m_tgb s_310) p_rab (fun _ => false) (p_B 310) [.aload 1, .invokevirtual 109, .pop, .aload 2, .invokevirtual 235, .pop, .goto 1492] 370 = some 383 := by decide +kernel
set_option maxRecDepth 100000 in
theorem sg_8 : m_seg lkf_13 (p_TT 310) (p_INI 310) false (m_tgb s_310) p_rab (fun _ => false) (p_B 310) [.aload 1, .invokevirtual 110, .pop, .aload 2, .invokevirtual 236, .pop, .goto 1492] 383 = some 396 := by decide +kernel
set_option maxRecDepth 100000 in
theorem sg_9 : m_seg lkf_13 (p_TT 310) (p_INI 310) false (m_tgb s_310) p_rab (fun _ => false) (p_B 310) [.aload 1, .invokevirtual 111, .pop, .aload 2, .invokevirtual 237, .pop, .goto 1492] 396 = some 409 := by decide +kernel
set_option maxRecDepth 100000 in
theorem sg_10 : m_seg lkf_13 (p_TT 310) (p_INI 310) false (m_tgb s_310) p_rab (fun _ => false) (p_B 310) [.aload 1, .invokevirtual 112, .pop, .aload 2, .invokevirtual 238, .pop, .goto 1492] 409 = some 422 := by decide +kernel
set_option maxRecDepth 100000 in
theorem sg_11 : m_seg lkf_13 (p_TT 310) (p_INI 310) false (m_tgb s_310) p_rab (fun _ => false) (p_B 310) [.aload 1, .aload 0, .iload 5, .iconst 1, .iadd, .iaload, .aload 3, .invokestatic 281, .istore 6, .aload 2, .aload 0, .iload 5, .iconst 1, .iadd, .iaload, .invokevirtual 239, .istore 7, .goto 1492] 422 = some 450 := by decide +kernel
set_option maxRecDepth 100000 in
theorem sg_12 : m_seg lkf_13 (p_TT 310) (p_INI 310) false (m_tgb s_310) p_rab (fun _ => false) (p_B 310) [.aload 1, .aload 0, .iload 5, .iconst 1, .iadd, .iaload, .aload 3, .invokestatic 282, .istore 6, .aload 2, .aload 0, .iload 5, .iconst 1, .iadd, .iaload, .invokevirtual 240, .istore 7, .goto 1492] 450 = some 478 := by decide +kernel
set_option maxRecDepth 100000 in
theorem sg_13 : m_seg lkf_13 (p_TT 310) (p_INI 310) false (m_tgb s_310) p_rab (fun _ => false) (p_B 310) [.aload 1, .aload 0, .iload 5, .iconst 1, .iadd, .iaload, .aload 0, .iload 5, .iconst 2, .iadd, .iaload, .aload 0, .iload 5, .iconst 3, .iadd, .iaload, .aload 0, .iload 5, .iconst 4, .iadd, .iaload, .aload 0, .iload 5, .iconst 5, .iadd, .iaload, .aload 3, .invokestatic 283, .istore 6, .aload 2, .aload 0, .iload 5, .iconst 1, .iadd, .iaload, .aload 0, .iload 5, .iconst 2, .iadd, .iaload, .aload 0, .iload 5, .iconst 3, .iadd, .iaload, .aload 0, .iload 5, .iconst 4, .iadd, .iaload, .aload 0, .iload 5, .iconst 5, .iadd, .iaload, .invokevirtual 261, .istore 7, .goto 1492] 478 = some 554 := by decide +kernel
set_option maxRecDepth 100000 in
theorem sg_14 : m_seg lkf_13 (p_TT 310) (p_INI 310) false (m_tgb s_310) p_rab (fun _ => false) (p_B 310) [.aload 1, .aload 0, .iload 5, .iconst 1, .iadd, .iaload, .aload 3, .invokestatic 284, .istore 6, .aload 2, .aload 0, .iload 5, .iconst 1, .iadd, .iaload, .invokevirtual 262, .istore 7, .goto 1492] 554 = some 582 := by decide +kernel
set_option maxRecDepth 100000 in
theorem sg_15 : m_seg lkf_13 (p_TT 310) (p_INI 310) false (m_tgb s_310) p_rab (fun _ => false) (p_B 310) [.aload 1, .aload 0, .iload 5, .iconst 1, .iadd, .iaload, .aload 0, .iload 5, .iconst 2, .iadd, .iaload, .aload 0, .iload 5, .iconst 3, .iadd, .iaload, .aload 3, .invokestatic 285, .istore 6, .aload 2, .aload 0, .iload 5, .iconst 1, .iadd, .iaload, .aload 0, .iload 5, .iconst 2, .iadd, .iaload, .aload 0, .iload 5, .iconst 3, .iadd, .iaload, .invokevirtual 263, .istore 7, .goto 1492] 582 = some 634 := by decide +kernel
set_option maxRecDepth 100000 in
theorem sg_16 : m_seg lkf_13 (p_TT 310) (p_INI 310) false (m_tgb s_310) p_rab (fun _ => false) (p_B 310) [.aload 1, .aload 0, .iload 5, .iconst 1, .iadd, .iaload, .aload 3, .invokestatic 286, .istore 6, .aload 2, .aload 0, .iload 5, .iconst 1, .iadd, .iaload, .invokevirtual 264, .istore 7, .goto 1492] 634 = some 662 := by decide +kernel
set_option maxRecDepth 100000 in
theorem sg_17 : m_seg lkf_13 (p_TT 310) (p_INI 310) false (m_tgb s_310) p_rab (fun _ => false) (p_B 310) [.aload 1, .aload 0, .iload 5, .iconst 1, .iadd, .iaload, .aload 3, .invokestatic 287, .istore 6, .aload 2, .aload 0, .iload 5, .iconst 1, .iadd, .iaload, .invokevirtual 265, .istore 7, .goto 1492] 662 = some 690 := by decide +kernel
set_option maxRecDepth 100000 in
theorem sg_18 : m_seg lkf_13 (p_TT 310) (p_INI 310) false (m_tgb s_310) p_rab (fun _ => false) (p_B 310) [.aload 1, .aload 0, .iload 5, .iconst 1, .iadd, .iaload, .aload 3, .invokestatic 288, .istore 6, .aload 2, .aload 0, .iload 5, .iconst 1, .iadd, .iaload, .invokevirtual 266, .istore 7, .goto 1492] 690 = some 718 := by decide +kernel
set_option maxRecDepth 100000 in
theorem sg_19 : m_seg lkf_13 (p_TT 310) (p_INI 310) false (m_tgb s_310) p_rab (fun _ => false) (p_B 310) [.aload 1, .aload 0, .iload 5, .iconst 1, .iadd, .iaload, .aload 0, .iload 5, .iconst 2, .iadd, .iaload, .aload 0, .iload 5, .iconst 3, .iadd, .iaload, .aload 3, .invokestatic 289, .istore 6, .aload 2, .aload 0, .iload 5, .iconst 1, .iadd, .iaload, .aload 0, .iload 5, .iconst 2, .iadd, .iaload, .aload 0, .iload 5, .iconst 3, .iadd, .iaload, .invokevirtual 267, .istore 7, .goto 1492] 718 = some 770 := by decide +kernel
set_option maxRecDepth 100000 in
theorem sg_20 : m_seg lkf_13 (p_TT 310) (p_INI 310) false (m_tgb s_310) p_rab (fun _ => false) (p_B 310) [.aload 1, .aload 0, .iload 5, .iconst 1, .iadd, .iaload, .aload 3, .invokestatic 290, .istore 6, .aload 2, .aload 0, .iload 5, .iconst 1, .iadd, .iaload, .invokevirtual 268, .istore 7, .goto 1492] 770 = some 798 := by decide +kernel
set_option maxRecDepth 100000 in
theorem sg_21 : m_seg lkf_13 (p_TT 310) (p_INI 310) false (m_tgb s_310) p_rab (fun _ => false) (p_B 310) [.aload 1, .aload 0, .iload 5, .iconst 1, .iadd, .iaload, .aload 3, .invokestatic 291, .istore 6, .aload 2, .aload 0, .iload 5, .iconst 1, .iadd, .iaload, .invokevirtual 242, .istore 7, .goto 1492] 798 = some 826 := by decide +kernel
set_option maxRecDepth 100000 in
theorem sg_22 : m_seg lkf_13 (p_TT 310) (p_INI 310) false (m_tgb s_310) p_rab (fun _ => false) (p_B 310) [.aload 1, .aload 0, .iload 5, .iconst 1, .iadd, .iaload, .aload 3, .invokestatic 292, .istore 6, .aload 2, .aload 0, .iload 5, .iconst 1, .iadd, .iaload, .invokevirtual 243, .istore 7, .goto 1492] 826 = some 854 := by decide +kernel
set_option maxRecDepth 100000 in
theorem sg_23 : m_seg lkf_13 (p_TT 310) (p_INI 310) false (m_tgb s_310) p_rab (fun _ => false) (p_B 310) [.aload 1, .aload 0, .iload 5, .iconst 1, .iadd, .iaload, .aload 3, .invokestatic 293, .istore 6, .aload 2, .aload 0, .iload 5, .iconst 1, .iadd, .iaload, .invokevirtual 244, .istore 7, .goto 1492] 854 = some 882 := by decide +kernel
set_option maxRecDepth 100000 in
theorem sg_24 : m_seg lkf_13 (p_TT 310) (p_INI 310) false (m_tgb s_310) p_rab (fun _ => false) (p_B 310) [.aload 1, .aload 0, .iload 5, .iconst 1, .iadd, .iaload, .aload 0, .iload 5, .iconst 2, .iadd, .iaload, .aload 3, .invokestatic 294, .istore 6, .aload 2, .aload 0, .iload 5, .iconst 1, .iadd, .iaload, .aload 0, .iload 5, .iconst 2, .iadd, .iaload, .invokevirtual 245, .istore 7, .goto 1492] 882 = some 922 := by decide +kernel
set_option maxRecDepth 100000 in
theorem sg_25 : m_seg lkf_13 (p_TT 310) (p_INI 310) false (m_tgb s_310) p_rab (fun _ => false) (p_B 310) [.aload 1, .aload 0, .iload 5, .iconst 1, .iadd, .iaload, .aload 0, .iload 5, .iconst 2, .iadd, .iaload, .aload 3, .invokestatic 295, .istore 6, .aload 2, .aload 0, .iload 5, .iconst 1, .iadd, .iaload, .aload 0, .iload 5, .iconst 2, .iadd, .iaload, .invokevirtual 246, .istore 7, .goto 1492] 922 = some 962 := by decide +kernel
set_option maxRecDepth 100000 in
theorem sg_26 : m_seg lkf_13 (p_TT 310) (p_INI 310) false (m_tgb s_310) p_rab (fun _ => false) (p_B 310) [.aload 1, .aload 0, .iload 5, .iconst 1, .iadd, .iaload, .aload 0, .iload 5, .iconst 2, .iadd, .iaload, .aload 3, .invokestatic 296, .istore 6, .aload 2, .aload 0, .iload 5, .iconst 1, .iadd, .iaload, .aload 0, .iload 5, .iconst 2, .iadd, .iaload, .invokevirtual 247, .istore 7, .goto 1492] 962 = some 1002 := by decide +kernel
set_option maxRecDepth 100000 in
theorem sg_27 : m_seg lkf_13 (p_TT 310) (p_INI 310) false (m_tgb s_310) p_rab (fun _ => false) (p_B 310) [.aload 1, .aload 0, .iload 5, .iconst 1, .iadd, .iaload, .aload 3, .invokestatic 297, .istore 6, .aload 2, .aload 0, .iload 5, .iconst 1, .iadd, .iaload, .invokevirtual 248, .istore 7, .goto 1492] 1002 = some 1030 := by decide +kernel
set_option maxRecDepth 100000 in
theorem sg_28 : m_seg lkf_13 (p_TT 310) (p_INI 310) false (m_tgb s_310) p_rab (fun _ => false) (p_B 310) [.aload 1, .aload 0, .iload 5, .iconst 1, .iadd, .iaload, .aload 0, .iload 5, .iconst 2, .iadd, .iaload, .aload 3, .invokestatic 298, .istore 6, .aload 2, .aload 0, .iload 5, .iconst 1, .iadd, .iaload, .aload 0, .iload 5, .iconst 2, .iadd, .iaload, .invokevirtual 249, .istore 7, .goto 1492] 1030 = some 1070 := by decide +kernel
set_option maxRecDepth 100000 in
theorem sg_29 : m_seg lkf_13 (p_TT 310) (p_INI 310) false (m_tgb s_310) p_rab (fun _ => false) (p_B 310) [.aload 1, .aload 0, .iload 5, .iconst 1, .iadd, .iaload, .aload 3, .invokestatic 299, .istore 6, .aload 2, .aload 0, .iload 5, .iconst 1, .iadd, .iaload, .invokevirtual 250, .istore 7, .goto 1492] 1070 = some 1098 := by decide +kernel
set_option maxRecDepth 100000 in
theorem sg_30 : m_seg lkf_13 (p_TT 310) (p_INI 310) false (m_tgb s_310) p_rab (fun _ => false) (p_B 310) [.aload 1, .aload 0, .iload 5, .iconst 1, .iadd, .iaload, .aload 3, .invokestatic 300, .istore 6, .aload 2, .aload 0, .iload 5, .iconst 1, .iadd, .iaload, .invokevirtual 251, .istore 7, .goto 1492] 1098 = some 1126 := by decide +kernel
set_option maxRecDepth 100000 in
theorem sg_31 : m_seg lkf_13 (p_TT 310) (p_INI 310) false (m_tgb s_310) p_rab (fun _ => false) (p_B 310) [.aload 1, .aload 0, .iload 5, .iconst 1, .iadd, .iaload, .aload 3, .invokestatic 301, .istore 6, .aload 2, .aload 0, .iload 5, .iconst 1, .iadd, .iaload, .invokevirtual 252, .istore 7, .goto 1492] 1126 = some 1154 := by decide +kernel
set_option maxRecDepth 100000 in
theorem sg_32 : m_seg lkf_13 (p_TT 310) (p_INI 310) false (m_tgb s_310) p_rab (fun _ => false) (p_B 310) [.aload 1, .aload 0, .iload 5, .iconst 1, .iadd, .iaload, .aload 0, .iload 5, .iconst 2, .iadd, .iaload, .aload 3, .invokestatic 302, .istore 6, .aload 2, .aload 0, .iload 5, .iconst 1, .iadd, .iaload, .aload 0, .iload 5, .iconst 2, .iadd, .iaload, .invokevirtual 254, .istore 7, .goto 1492] 1154 = some 1194 := by decide +kernel
set_option maxRecDepth 100000 in
theorem sg_33 : m_seg lkf_13 (p_TT 310) (p_INI 310) false (m_tgb s_310) p_rab (fun _ => false) (p_B 310) [.aload 1, .invokevirtual 135, .pop, .aload 2, .invokevirtual 255, .pop, .goto 1492] 1194 = some 1207 := by decide +kernel
set_option maxRecDepth 100000 in
theorem sg_34 : m_seg lkf_13 (p_TT 310) (p_INI 310) false (m_tgb s_310) p_rab (fun _ => false) (p_B 310) [.aload 1, .aload 0, .iload 5, .iconst 1, .iadd, .iaload, .aload 0, .iload 5, .iconst 2, .iadd, .iaload, .aload 3, .invokestatic 303, .istore 6, .aload 2, .aload 0, .iload 5, .iconst 1, .iadd, .iaload, .aload 0, .iload 5, .iconst 2, .iadd, .iaload, .invokevirtual 256, .istore 7, .goto 1492] 1207 = some 1247 := by decide +kernel
set_option maxRecDepth 100000 in
theorem sg_35 : m_seg lkf_13 (p_TT 310) (p_INI 310) false (m_tgb s_310) p_rab (fun _ => false) (p_B 310) [.aload 1, .aload 0, .iload 5, .iconst 1, .iadd, .iaload, .invokevirtual 137, .pop, .aload 2, .aload 0, .iload 5, .iconst 1, .iadd, .iaload, .invokevirtual 257, .pop, .goto 1492] 1247 = some 1272 := by decide +kernel
set_option maxRecDepth 100000 in
theorem sg_36 : m_seg lkf_13 (p_TT 310) (p_INI 310) false (m_tgb s_310) p_rab (fun _ => false) (p_B 310) [.aload 1, .aload 0, .iload 5, .iconst 1, .iadd, .iaload, .aload 4, .invokestatic 304, .istore 6, .aload 2, .aload 0, .iload 5, .iconst 1, .iadd, .iaload, .invokevirtual 258, .dstore 7, .goto 1492] 1272 = some 1301 := by decide +kernel
set_option maxRecDepth 100000 in
theorem sg_37 : m_seg lkf_13 (p_TT 310) (p_INI 310) false (m_tgb s_310) p_rab (fun _ => false) (p_B 310) [.aload 1, .aload 0, .iload 5, .iconst 1, .iadd, .iaload, .aload 4, .invokestatic 305, .istore 6, .aload 2, .aload 0, .iload 5, .iconst 1, .iadd, .iaload, .invokevirtual 259, .fstore 7, .goto 1492] 1301 = some 1330 := by decide +kernel
set_option maxRecDepth 100000 in
theorem sg_38 : m_seg lkf_13 (p_TT 310) (p_INI 310) false (m_tgb s_310) p_rab (fun _ => false) (p_B 310) [.aload 1, .aload 0, .iload 5, .iconst 1, .iadd, .iaload, .aload 3, .invokestatic 306, .istore 6, .aload 2, .aload 0, .iload 5, .iconst 1, .iadd, .iaload, .invokevirtual 273, .istore 7, .goto 1492] 1330 = some 1358 := by decide +kernel
set_option maxRecDepth 100000 in
theorem sg_39 : m_seg lkf_13 (p_TT 310) (p_INI 310) false (m_tgb s_310) p_rab (fun _ => false) (p_B 310) [.aload 1, .aload 0, .iload 5, .iconst 1, .iadd, .iaload, .aload 3, .invokestatic 307, .istore 6, .aload 2, .aload 0, .iload 5, .iconst 1, .iadd, .iaload, .invokevirtual 274, .istore 7, .goto 1492] 1358 = some 1386 := by decide +kernel
set_option maxRecDepth 100000 in
theorem sg_40 : m_seg lkf_13 (p_TT 310) (p_INI 310) false (m_tgb s_310) p_rab (fun _ => false) (p_B 310) [.aload 1, .aload 0, .iload 5, .iconst 1, .iadd, .iaload, .aload 3, .invokestatic 308, .istore 6, .aload 2, .aload 0, .iload 5, .iconst 1, .iadd, .iaload, .invokevirtual 275, .istore 7, .goto 1492] 1386 = some 1414 := by decide +kernel
set_option maxRecDepth 100000 in
theorem sg_41 : m_seg lkf_13 (p_TT 310) (p_INI 310) false (m_tgb s_310) p_rab (fun _ => false) (p_B 310) [.aload 1, .invokevirtual 144, .pop, .aload 2, .invokevirtual 269, .pop, .goto 1492] 1414 = some 1427 := by decide +kernel
set_option maxRecDepth 100000 in
theorem sg_42 : m_seg lkf_13 (p_TT 310) (p_INI 310) false (m_tgb s_310) p_rab (fun _ => false) (p_B 310) [.aload 1, .invokevirtual 145, .pop, .aload 2, .invokevirtual 270, .pop, .goto 1492] 1427 = some 1440 := by decide +kernel
set_option maxRecDepth 100000 in
theorem sg_43 : m_seg lkf_13 (p_TT 310) (p_INI 310) false (m_tgb s_310) p_rab (fun _ => false) (p_B 310) [.aload 1, .invokevirtual 146, .aload 2, .invokevirtual 271, .goto 1492] 1440 = some 1451 := by decide +kernel
set_option maxRecDepth 100000 in
theorem sg_44 : m_seg lkf_13 (p_TT 310) (p_INI 310) false (m_tgb s_310) p_rab (fun _ => false) (p_B 310) [.aload 1, .invokevirtual 147, .pop, .aload 2, .invokevirtual 272, .pop, .goto 1492] 1451 = some 1464 := by decide +kernel
set_option maxRecDepth 100000 in
theorem sg_45 : m_seg lkf_13 (p_TT 310) (p_INI 310) false (m_tgb s_310) p_rab (fun _ => false) (p_B 310) [.aload 1, .aload 0, .iload 5, .iconst 1, .iadd, .iaload, .aload 3, .invokestatic 309, .istore 6, .aload 2, .aload 0, .iload 5, .iconst 1, .iadd, .iaload, .invokevirtual 278, .istore 7, .goto 1492] 1464 = some 1492 := by decide +kernel
set_option maxRecDepth 100000 in
theorem sg_46 : m_seg lkf_13 (p_TT 310) (p_INI 310) false (m_tgb s_310) p_rab (fun _ => false) (p_B 310) [.iinc 5 6, .goto 28] 1492 = some 1498 := by decide +kernel
set_option maxRecDepth 100000 in
theorem sg_47 : m_seg lkf_13 (p_TT 310) (p_INI 310) false (m_tgb s_310) p_rab (fun _ => false) (p_B 310) [.iconst 1, .ret 0] 1498 = some 1500 := by decide +kernel
