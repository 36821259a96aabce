/-! the law's own code, by stretches -/
set_option maxRecDepth 100000 in
theorem sg_0 : m_seg lkf_13 (p_TT 310) (p_INI 310) false (m_tgb s_310) p_rab (fun _ => false) (p_B 310) [.new 11, .dup, .invokespecial 104, .astore 1, .new 12, .dup, .invokespecial 152, .astore 2, .iconst 1, .newarray .long, .astore 3, .iconst 1, .newarray .double, .astore 4, .iconst 0, .istore 5] 0 = some 28 := by decide +kernel
set_option maxRecDepth 100000 in
theorem sg_1 : m_seg lkf_13 (p_TT 310) (p_INI 310) false (m_tgb s_310) p_rab (fun _ => false) (p_B 310) [.iload 5, .aload 0, .ldc_w 100, .iconst 6, .isub, .if_icmp .gt 2351, .aload 0, .iload 5, .iaload, .iconst 63, .iand, .tableswitch 2345 0 41 #[228, 301, 357, 370, 383, 396, 409, 422, 478, 534, 638, 694, 774, 830, 886, 942, 1022, 1078, 1134, 1190, 1246, 1314, 1382, 1450, 1506, 1574, 1630, 1686, 1742, 1810, 1823, 1891, 1916, 1993, 2071, 2127, 2183, 2239, 2252, 2265, 2276, 2289]] 28 = some 228 := by decide +kernel
set_option maxRecDepth 100000 in
theorem sg_2 : m_seg lkf_13 (p_TT 310) (p_INI 310) false (m_tgb s_310) p_rab (fun _ => false) (p_B 310) [.aload 1, .aload 0, .iload 5, .iconst 1, .iadd, .iaload, .aload 0, .iload 5, .iconst 2, .iadd, .iaload, .aload 0, .iload 5, .iconst 3, .iadd, .iaload, .aload 0, .iload 5, .iconst 4, .iadd, .iaload, .aload 0, .iload 5, .iconst 5, .iadd, .iaload, .invokevirtual 105, .aload 2, .aload 0, .iload 5, .iconst 1, .iadd, .iaload, .aload 0, .iload 5, .iconst 2, .iadd, .iaload, .aload 0, .iload 5, .iconst 3, .iadd, .iaload, .aload 0, .iload 5, .iconst 4, .iadd, .iaload, .aload 0, .iload 5, .iconst 5, .iadd, .iaload, .invokevirtual 162, .if_icmp .eq 2345, .iconst 0, .ret 0] 228 = some 301 := by decide +kernel
set_option maxRecDepth 100000 in
theorem sg_3 : m_seg lkf_13 (p_TT 310) (p_INI 310) false (m_tgb s_310) p_rab (fun _ => false) (p_B 310) [.aload 1, .aload 0, .iload 5, .iconst 1, .iadd, .iaload, .aload 3, .invokestatic 280, .istore 6, .aload 2, .aload 0, .iload 5, .iconst 1, .iadd, .iaload, .invokevirtual 206, .istore 7, .aload 2, .invokevirtual 153, .iload 6, .if_icmp .eq 337, .iconst 0, .ret 0] 301 = some 337 := by decide +kernel
set_option maxRecDepth 100000 in
theorem sg_4 : m_seg lkf_13 (p_TT 310) (p_INI 310) false (m_tgb s_310) p_rab (fun _ => false) (p_B 310) [.iload 6, .ifCond .ne 354, .aload 3, .iconst 0, .laload, .iload 7, .i2l, .lcmp, .ifCond .eq 354, .iconst 0, .ret 0] 337 = some 354 := by decide +kernel
set_option maxRecDepth 100000 in
theorem sg_5 : m_seg lkf_13 (p_TT 310) (p_INI 310) false (m_tgb s_310) p_rab (fun _ => false) (p_B 310) [.goto 2345] 354 = some 357 := by decide +kernel
set_option maxRecDepth 100000 in
theorem sg_6 : m_seg lkf_13 (p_TT 310) (p_INI 310) false (m_tgb s_310) p_rab (fun _ => false) (p_B 310) [.aload 1, .invokevirtual 108, .aload 2, .invokevirtual 163, .if_icmp .eq 2345, .iconst 0, .ret 0] 357 = some 370 := by decide +kernel
set_option maxRecDepth 100000 in
theorem sg_7 : m_seg lkf_13 (p_TT 310) (p_INI 310) false (m_tgb s_310) p_rab (fun _ => false) (p_B 310) [.aload 1, .invokevirtual 109, .aload 2, .invokevirtual 236, .if_icmp .eq 2345, .iconst 0, .ret 0] 370 = some 383 := by decide +kernel
set_option maxRecDepth 100000 in
theorem sg_8 : m_seg lkf_13 (p_TT 310) (p_INI 310) false (m_tgb s_310) p_rab (fun _ => false) (p_B 310) [.aload 1, .invokevirtual 110, .aload 2, .invokevirtual 237, .if_icmp .eq 2345, .iconst 0, .ret 0] 383 = some 396 := by decide +kernel
set_option maxRecDepth 100000 in
theorem sg_9 : m_seg lkf_13 (p_TT 310) (p_INI 310) false (m_tgb s_310) p_rab (fun _ => false) (p_B 310) [.aload 1, .invokevirtual 111, .aload 2, .invokevirtual 238, .if_icmp .eq 2345, .iconst 0, .ret 0] 396 = some 409 := by decide +kernel
set_option maxRecDepth 100000 in
theorem sg_10 : m_seg lkf_13 (p_TT 310) (p_INI 310) false (m_tgb s_310) p_rab (fun _ => false) (p_B 310) [.aload 1, .invokevirtual 112, .aload 2, .invokevirtual 239, .if_icmp .eq 2345, .iconst 0, .ret 0] 409 = some 422 := by decide +kernel
set_option maxRecDepth 100000 in
theorem sg_11 : m_seg lkf_13 (p_TT 310) (p_INI 310) false (m_tgb s_310) p_rab (fun _ => false) (p_B 310) [.aload 1, .aload 0, .iload 5, .iconst 1, .iadd, .iaload, .aload 3, .invokestatic 281, .istore 6, .aload 2, .aload 0, .iload 5, .iconst 1, .iadd, .iaload, .invokevirtual 240, .istore 7, .aload 2, .invokevirtual 153, .iload 6, .if_icmp .eq 458, .iconst 0, .ret 0] 422 = some 458 := by decide +kernel
set_option maxRecDepth 100000 in
theorem sg_12 : m_seg lkf_13 (p_TT 310) (p_INI 310) false (m_tgb s_310) p_rab (fun _ => false) (p_B 310) [.iload 6, .ifCond .ne 475, .aload 3, .iconst 0, .laload, .iload 7, .i2l, .lcmp, .ifCond .eq 475, .iconst 0, .ret 0] 458 = some 475 := by decide +kernel
set_option maxRecDepth 100000 in
theorem sg_13 : m_seg lkf_13 (p_TT 310) (p_INI 310) false (m_tgb s_310) p_rab (fun _ => false) (p_B 310) [.goto 2345] 475 = some 478 := by decide +kernel
set_option maxRecDepth 100000 in
theorem sg_14 : m_seg lkf_13 (p_TT 310) (p_INI 310) false (m_tgb s_310) p_rab (fun _ => false) (p_B 310) [.aload 1, .aload 0, .iload 5, .iconst 1, .iadd, .iaload, .aload 3, .invokestatic 282, .istore 6, .aload 2, .aload 0, .iload 5, .iconst 1, .iadd, .iaload, .invokevirtual 241, .istore 7, .aload 2, .invokevirtual 153, .iload 6, .if_icmp .eq 514, .iconst 0, .ret 0] 478 = some 514 := by decide +kernel
set_option maxRecDepth 100000 in
theorem sg_15 : m_seg lkf_13 (p_TT 310) (p_INI 310) false (m_tgb s_310) p_rab (fun _ => false) (p_B 310) [.iload 6, .ifCond .ne 531, .aload 3, .iconst 0, .laload, .iload 7, .i2l, .lcmp, .ifCond .eq 531, .iconst 0, .ret 0] 514 = some 531 := by decide +kernel
set_option maxRecDepth 100000 in
theorem sg_16 : m_seg lkf_13 (p_TT 310) (p_INI 310) false (m_tgb s_310) p_rab (fun _ => false) (p_B 310) [.goto 2345] 531 = some 534 := by decide +kernel
set_option maxRecDepth 100000 in
theorem sg_17 : m_seg lkf_13 (p_TT 310) (p_INI 310) false (m_tgb s_310) p_rab (fun _ => false) (p_B 310) [.aload 1, .aload 0, .iload 5, .iconst 1, .iadd, .iaload, .aload 0, .iload 5, .iconst 2, .iadd, .iaload, .aload 0, .iload 5, .iconst 3, .iadd, .iaload, .aload 0, .iload 5, .iconst 4, .iadd, .iaload, .aload 0, .iload 5, .iconst 5, .iadd, .iaload, .aload 3, .invokestatic 283, .istore 6, .aload 2, .aload 0, .iload 5, .iconst 1, .iadd, .iaload, .aload 0, .iload 5, .iconst 2, .iadd, .iaload, .aload 0, .iload 5, .iconst 3, .iadd, .iaload, .aload 0, .iload 5, .iconst 4, .iadd, .iaload, .aload 0, .iload 5, .iconst 5, .iadd, .iaload, .invokevirtual 262, .istore 7, .aload 2, .invokevirtual 153, .iload 6, .if_icmp .eq 618, .iconst 0, .ret 0] 534 = some 618 := by decide +kernel
set_option maxRecDepth 100000 in
theorem sg_18 : m_seg lkf_13 (p_TT 310) (p_INI 310) false (m_tgb s_310) p_rab (fun _ => false) (p_B 310) [.iload 6, .ifCond .ne 635, .aload 3, .iconst 0, .laload, .iload 7, .i2l, .lcmp, .ifCond .eq 635, .iconst 0, .ret 0] 618 = some 635 := by decide +kernel
set_option maxRecDepth 100000 in
theorem sg_19 : m_seg lkf_13 (p_TT 310) (p_INI 310) false (m_tgb s_310) p_rab (fun _ => false) (p_B 310) [.goto 2345] 635 = some 638 := by decide +kernel
set_option maxRecDepth 100000 in
theorem sg_20 : m_seg lkf_13 (p_TT 310) (p_INI 310) false (m_tgb s_310) p_rab (fun _ => false) (p_B 310) [.aload 1, .aload 0, .iload 5, .iconst 1, .iadd, .iaload, .aload 3, .invokestatic 284, .istore 6, .aload 2, .aload 0, .iload 5, .iconst 1, .iadd, .iaload, .invokevirtual 263, .istore 7, .aload 2, .invokevirtual 153, .iload 6, .if_icmp .eq 674, .iconst 0, .ret 0] 638 = some 674 := by decide +kernel
set_option maxRecDepth 100000 in
theorem sg_21 : m_seg lkf_13 (p_TT 310) (p_INI 310) false (m_tgb s_310) p_rab (fun _ => false) (p_B 310) [.iload 6, .ifCond .ne 691, .aload 3, .iconst 0, .laload, .iload 7, .i2l, .lcmp, .ifCond .eq 691, .iconst 0, .ret 0] 674 = some 691 := by decide +kernel
set_option maxRecDepth 100000 in
theorem sg_22 : m_seg lkf_13 (p_TT 310) (p_INI 310) false (m_tgb s_310) p_rab (fun _ => false) (p_B 310) [.goto 2345] 691 = some 694 := by decide +kernel
set_option maxRecDepth 100000 in
theorem sg_23 : m_seg lkf_13 (p_TT 310) (p_INI 310) false (m_tgb s_310) p_rab (fun _ => false) (p_B 310) [.aload 1, .aload 0, .iload 5, .iconst 1, .iadd, .iaload, .aload 0, .iload 5, .iconst 2, .iadd, .iaload, .aload 0, .iload 5, .iconst 3, .iadd, .iaload, .aload 3, .invokestatic 285, .istore 6, .aload 2, .aload 0, .iload 5, .iconst 1, .iadd, .iaload, .aload 0, .iload 5, .iconst 2, .iadd, .iaload, .aload 0, .iload 5, .iconst 3, .iadd, .iaload, .invokevirtual 264, .istore 7, .aload 2, .invokevirtual 153, .iload 6, .if_icmp .eq 754, .iconst 0, .ret 0] 694 = some 754 := by decide +kernel
set_option maxRecDepth 100000 in
theorem sg_24 : m_seg lkf_13 (p_TT 310) (p_INI 310) false (m_tgb s_310) p_rab (fun _ => false) (p_B 310) [.iload 6, .ifCond .ne 771, .aload 3, .iconst 0, .laload, .iload 7, .i2l, .lcmp, .ifCond .eq 771, .iconst 0, .ret 0] 754 = some 771 := by decide +kernel
set_option maxRecDepth 100000 in
theorem sg_25 : m_seg lkf_13 (p_TT 310) (p_INI 310) false (m_tgb s_310) p_rab (fun _ => false) (p_B 310) [.goto 2345] 771 = some 774 := by decide +kernel
set_option maxRecDepth 100000 in
theorem sg_26 : m_seg lkf_13 (p_TT 310) (p_INI 310) false (m_tgb s_310) p_rab (fun _ => false) (p_B 310) [.aload 1, .aload 0, .iload 5, .iconst 1, .iadd, .iaload, .aload 3, .invokestatic 286, .istore 6, .aload 2, .aload 0, .iload 5, .iconst 1, .iadd, .iaload, .invokevirtual 265, .istore 7, .aload 2, .invokevirtual 153, .iload 6, .if_icmp .eq 810, .iconst 0, .ret 0] 774 = some 810 := by decide +kernel
set_option maxRecDepth 100000 in
theorem sg_27 : m_seg lkf_13 (p_TT 310) (p_INI 310) false (m_tgb s_310) p_rab (fun _ => false) (p_B 310) [.iload 6, .ifCond .ne 827, .aload 3, .iconst 0, .laload, .iload 7, .i2l, .lcmp, .ifCond .eq 827, .iconst 0, .ret 0] 810 = some 827 := by decide +kernel
set_option maxRecDepth 100000 in
theorem sg_28 : m_seg lkf_13 (p_TT 310) (p_INI 310) false (m_tgb s_310) p_rab (fun _ => false) (p_B 310) [.goto 2345] 827 = some 830 := by decide +kernel
set_option maxRecDepth 100000 in
theorem sg_29 : m_seg lkf_13 (p_TT 310) (p_INI 310) false (m_tgb s_310) p_rab (fun _ => false) (p_B 310) [.aload 1, .aload 0, .iload 5, .iconst 1, .iadd, .iaload, .aload 3, .invokestatic 287, .istore 6, .aload 2, .aload 0, .iload 5, .iconst 1, .iadd, .iaload, .invokevirtual 266, .istore 7, .aload 2, .invokevirtual 153, .iload 6, .if_icmp .eq 866, .iconst 0, .ret 0] 830 = some 866 := by decide +kernel
set_option maxRecDepth 100000 in
theorem sg_30 : m_seg lkf_13 (p_TT 310) (p_INI 310) false (m_tgb s_310) p_rab (fun _ => false) (p_B 310) [.iload 6, .ifCond .ne 883, .aload 3, .iconst 0, .laload, .iload 7, .i2l, .lcmp, .ifCond .eq 883, .iconst 0, .ret 0] 866 = some 883 := by decide +kernel
set_option maxRecDepth 100000 in
theorem sg_31 : m_seg lkf_13 (p_TT 310) (p_INI 310) false (m_tgb s_310) p_rab (fun _ => false) (p_B 310) [.goto 2345] 883 = some 886 := by decide +kernel
set_option maxRecDepth 100000 in
theorem sg_32 : m_seg lkf_13 (p_TT 310) (p_INI 310) false (m_tgb s_310) p_rab (fun _ => false) (p_B 310) [.aload 1, .aload 0, .iload 5, .iconst 1, .iadd, .iaload, .aload 3, .invokestatic 288, .istore 6, .aload 2, .aload 0, .iload 5, .iconst 1, .iadd, .iaload, .invokevirtual 267, .istore 7, .aload 2, .invokevirtual 153, .iload 6, .if_icmp .eq 922, .iconst 0, .ret 0] 886 = some 922 := by decide +kernel
set_option maxRecDepth 100000 in
theorem sg_33 : m_seg lkf_13 (p_TT 310) (p_INI 310) false (m_tgb s_310) p_rab (fun _ => false) (p_B 310) [.iload 6, .ifCond .ne 939, .aload 3, .iconst 0, .laload, .iload 7, .i2l, .lcmp, .ifCond .eq 939, .iconst 0, .ret 0] 922 = some 939 := by decide +kernel
set_option maxRecDepth 100000 in
theorem sg_34 : m_seg lkf_13 (p_TT 310) (p_INI 310) false (m_tgb s_310) p_rab (fun _ => false) (p_B 310) [.goto 2345] 939 = some 942 := by decide +kernel
set_option maxRecDepth 100000 in
theorem sg_35 : m_seg lkf_13 (p_TT 310) (p_INI 310) false (m_tgb s_310) p_rab (fun _ => false) (p_B 310) [.aload 1, .aload 0, .iload 5, .iconst 1, .iadd, .iaload, .aload 0, .iload 5, .iconst 2, .iadd, .iaload, .aload 0, .iload 5, .iconst 3, .iadd, .iaload, .aload 3, .invokestatic 289, .istore 6, .aload 2, .aload 0, .iload 5, .iconst 1, .iadd, .iaload, .aload 0, .iload 5, .iconst 2, .iadd, .iaload, .aload 0, .iload 5, .iconst 3, .iadd, .iaload, .invokevirtual 268, .istore 7, .aload 2, .invokevirtual 153, .iload 6, .if_icmp .eq 1002, .iconst 0, .ret 0] 942 = some 1002 := by decide +kernel
set_option maxRecDepth 100000 in
theorem sg_36 : m_seg lkf_13 (p_TT 310) (p_INI 310) false (m_tgb s_310) p_rab (fun _ => false) (p_B 310) [.iload 6, .ifCond .ne 1019, .aload 3, .iconst 0, .laload, .iload 7, .i2l, .lcmp, .ifCond .eq 1019, .iconst 0, .ret 0] 1002 = some 1019 := by decide +kernel
set_option maxRecDepth 100000 in
theorem sg_37 : m_seg lkf_13 (p_TT 310) (p_INI 310) false (m_tgb s_310) p_rab (fun _ => false) (p_B 310) [.goto 2345] 1019 = some 1022 := by decide +kernel
set_option maxRecDepth 100000 in
theorem sg_38 : m_seg lkf_13 (p_TT 310) (p_INI 310) false (m_tgb s_310) p_rab (fun _ => false) (p_B 310) [.aload 1, .aload 0, .iload 5, .iconst 1, .iadd, .iaload, .aload 3, .invokestatic 290, .istore 6, .aload 2, .aload 0, .iload 5, .iconst 1, .iadd, .iaload, .invokevirtual 269, .istore 7, .aload 2, .invokevirtual 153, .iload 6, .if_icmp .eq 1058, .iconst 0, .ret 0] 1022 = some 1058 := by decide +kernel
set_option maxRecDepth 100000 in
theorem sg_39 : m_seg lkf_13 (p_TT 310) (p_INI 310) false (m_tgb s_310) p_rab (fun _ => false) (p_B 310) [.iload 6, .ifCond .ne 1075, .aload 3, .iconst 0, .laload, .iload 7, .i2l, .lcmp, .ifCond .eq 1075, .iconst 0, .ret 0] 1058 = some 1075 := by decide +kernel
set_option maxRecDepth 100000 in
theorem sg_40 : m_seg lkf_13 (p_TT 310) (p_INI 310) false (m_tgb s_310) p_rab (fun _ => false) (p_B 310) [.goto 2345] 1075 = some 1078 := by decide +kernel
set_option maxRecDepth 100000 in
theorem sg_41 : m_seg lkf_13 (p_TT 310) (p_INI 310) false (m_tgb s_310) p_rab (fun _ => false) (p_B 310) [.aload 1, .aload 0, .iload 5, .iconst 1, .iadd, .iaload, .aload 3, .invokestatic 291, .istore 6, .aload 2, .aload 0, .iload 5, .iconst 1, .iadd, .iaload, .invokevirtual 243, .istore 7, .aload 2, .invokevirtual 153, .iload 6, .if_icmp .eq 1114, .iconst 0, .ret 0] 1078 = some 1114 := by decide +kernel
set_option maxRecDepth 100000 in
theorem sg_42 : m_seg lkf_13 (p_TT 310) (p_INI 310) false (m_tgb s_310) p_rab (fun _ => false) (p_B 310) [.iload 6, .ifCond .ne 1131, .aload 3, .iconst 0, .laload, .iload 7, .i2l, .lcmp, .ifCond .eq 1131, .iconst 0, .ret 0] 1114 = some 1131 := by decide +kernel
set_option maxRecDepth 100000 in
theorem sg_43 : m_seg lkf_13 (p_TT 310) (p_INI 310) false (m_tgb s_310) p_rab (fun _ => false) (p_B 310) [.goto 2345] 1131 = some 1134 := by decide +kernel
set_option maxRecDepth 100000 in
theorem sg_44 : m_seg lkf_13 (p_TT 310) (p_INI 310) false (m_tgb s_310) p_rab (fun _ => false) (p_B 310) [.aload 1, .aload 0, .iload 5, .iconst 1, .iadd, .iaload, .aload 3, .invokestatic 292, .istore 6, .aload 2, .aload 0, .iload 5, .iconst 1, .iadd, .iaload, .invokevirtual 244, .istore 7, .aload 2, .invokevirtual 153, .iload 6, .if_icmp .eq 1170, .iconst 0, .ret 0] 1134 = some 1170 := by decide +kernel
set_option maxRecDepth 100000 in
theorem sg_45 : m_seg lkf_13 (p_TT 310) (p_INI 310) false (m_tgb s_310) p_rab (fun _ => false) (p_B 310) [.iload 6, .ifCond .ne 1187, .aload 3, .iconst 0, .laload, .iload 7, .i2l, .lcmp, .ifCond .eq 1187, .iconst 0, .ret 0] 1170 = some 1187 := by decide +kernel
set_option maxRecDepth 100000 in
theorem sg_46 : m_seg lkf_13 (p_TT 310) (p_INI 310) false (m_tgb s_310) p_rab (fun _ => false) (p_B 310) [.goto 2345] 1187 = some 1190 := by decide +kernel
set_option maxRecDepth 100000 in
theorem sg_47 : m_seg lkf_13 (p_TT 310) (p_INI 310) false (m_tgb s_310) p_rab (fun _ => false) (p_B 310) [.aload 1, .aload 0, .iload 5, .iconst 1, .iadd, .iaload, .aload 3, .invokestatic 293, .istore 6, .aload 2, .aload 0, .iload 5, .iconst 1, .iadd, .iaload, .invokevirtual 245, .istore 7, .aload 2, .invokevirtual 153, .iload 6, .if_icmp .eq 1226, .iconst 0, .ret 0] 1190 = some 1226 := by decide +kernel
set_option maxRecDepth 100000 in
theorem sg_48 : m_seg lkf_13 (p_TT 310) (p_INI 310) false (m_tgb s_310) p_rab (fun _ => false) (p_B 310) [.iload 6, .ifCond .ne 1243, .aload 3, .iconst 0, .laload, .iload 7, .i2l, .lcmp, .ifCond .eq 1243, .iconst 0, .ret 0] 1226 = some 1243 := by decide +kernel
set_option maxRecDepth 100000 in
theorem sg_49 : m_seg lkf_13 (p_TT 310) (p_INI 310) false (m_tgb s_310) p_rab (fun _ => false) (p_B 310) [.goto 2345] 1243 = some 1246 := by decide +kernel
set_option maxRecDepth 100000 in
theorem sg_50 : m_seg lkf_13 (p_TT 310) (p_INI 310) false (m_tgb s_310) p_rab (fun _ => false) (p_B 310) [.aload 1, .aload 0, .iload 5, .iconst 1, .iadd, .iaload, .aload 0, .iload 5, .iconst 2, .iadd, .iaload, .aload 3, .invokestatic 294, .istore 6, .aload 2, .aload 0, .iload 5, .iconst 1, .iadd, .iaload, .aload 0, .iload 5, .iconst 2, .iadd, .iaload, .invokevirtual 246, .istore 7, .aload 2, .invokevirtual 153, .iload 6, .if_icmp .eq 1294, .iconst 0, .ret 0] 1246 = some 1294 := by decide +kernel
set_option maxRecDepth 100000 in
theorem sg_51 : m_seg lkf_13 (p_TT 310) (p_INI 310) false (m_tgb s_310) p_rab (fun _ => false) (p_B 310) [.iload 6, .ifCond .ne 1311, .aload 3, .iconst 0, .laload, .iload 7, .i2l, .lcmp, .ifCond .eq 1311, .iconst 0, .ret 0] 1294 = some 1311 := by decide +kernel
set_option maxRecDepth 100000 in
theorem sg_52 : m_seg lkf_13 (p_TT 310) (p_INI 310) false (m_tgb s_310) p_rab (fun _ => false) (p_B 310) [.goto 2345] 1311 = some 1314 := by decide +kernel
set_option maxRecDepth 100000 in
theorem sg_53 : m_seg lkf_13 (p_TT 310) (p_INI 310) false (m_tgb s_310) p_rab (fun _ => false) (p_B 310) [.aload 1, .aload 0, .iload 5, .iconst 1, .iadd, .iaload, .aload 0, .iload 5, .iconst 2, .iadd, .iaload, .aload 3, .invokestatic 295, .istore 6, .aload 2, .aload 0, .iload 5, .iconst 1, .iadd, .iaload, .aload 0, .iload 5, .iconst 2, .iadd, .iaload, .invokevirtual 247, .istore 7, .aload 2, .invokevirtual 153, .iload 6, .if_icmp .eq 1362, .iconst 0, .ret 0] 1314 = some 1362 := by decide +kernel
set_option maxRecDepth 100000 in
theorem sg_54 : m_seg lkf_13 (p_TT 310) (p_INI 310) false (m_tgb s_310) p_rab (fun _ => false) (p_B 310) [.iload 6, .ifCond .ne 1379, .aload 3, .iconst 0, .laload, .iload 7, .i2l, .lcmp, .ifCond .eq 1379, .iconst 0, .ret 0] 1362 = some 1379 := by decide +kernel
set_option maxRecDepth 100000 in
theorem sg_55 : m_seg lkf_13 (p_TT 310) (p_INI 310) false (m_tgb s_310) p_rab (fun _ => false) (p_B 310) [.goto 2345] 1379 = some 1382 := by decide +kernel
set_option maxRecDepth 100000 in
theorem sg_56 : m_seg lkf_13 (p_TT 310) (p_INI 310) false (m_tgb s_310) p_rab (fun _ => false) (p_B 310) [.aload 1, .aload 0, .iload 5, .iconst 1, .iadd, .iaload, .aload 0, .iload 5, .iconst 2, .iadd, .iaload, .aload 3, .invokestatic 296, .istore 6, .aload 2, .aload 0, .iload 5, .iconst 1, .iadd, .iaload, .aload 0, .iload 5, .iconst 2, .iadd, .iaload, .invokevirtual 248, .istore 7, .aload 2, .invokevirtual 153, .iload 6, .if_icmp .eq 1430, .iconst 0, .ret 0] 1382 = some 1430 := by decide +kernel
set_option maxRecDepth 100000 in
theorem sg_57 : m_seg lkf_13 (p_TT 310) (p_INI 310) false (m_tgb s_310) p_rab (fun _ => false) (p_B 310) [.iload 6, .ifCond .ne 1447, .aload 3, .iconst 0, .laload, .iload 7, .i2l, .lcmp, .ifCond .eq 1447, .iconst 0, .ret 0] 1430 = some 1447 := by decide +kernel
set_option maxRecDepth 100000 in
theorem sg_58 : m_seg lkf_13 (p_TT 310) (p_INI 310) false (m_tgb s_310) p_rab (fun _ => false) (p_B 310) [.goto 2345] 1447 = some 1450 := by decide +kernel
set_option maxRecDepth 100000 in
theorem sg_59 : m_seg lkf_13 (p_TT 310) (p_INI 310) false (m_tgb s_310) p_rab (fun _ => false) (p_B 310) [.aload 1, .aload 0, .iload 5, .iconst 1, .iadd, .iaload, .aload 3, .invokestatic 297, .istore 6, .aload 2, .aload 0, .iload 5, .iconst 1, .iadd, .iaload, .invokevirtual 249, .istore 7, .aload 2, .invokevirtual 153, .iload 6, .if_icmp .eq 1486, .iconst 0, .ret 0] 1450 = some 1486 := by decide +kernel
set_option maxRecDepth 100000 in
theorem sg_60 : m_seg lkf_13 (p_TT 310) (p_INI 310) false (m_tgb s_310) p_rab (fun _ => false) (p_B 310) [.iload 6, .ifCond .ne 1503, .aload 3, .iconst 0, .laload, .iload 7, .i2l, .lcmp, .ifCond .eq 1503, .iconst 0, .ret 0] 1486 = some 1503 := by decide +kernel
set_option maxRecDepth 100000 in
theorem sg_61 : m_seg lkf_13 (p_TT 310) (p_INI 310) false (m_tgb s_310) p_rab (fun _ => false) (p_B 310) [.goto 2345] 1503 = some 1506 := by decide +kernel
set_option maxRecDepth 100000 in
theorem sg_62 : m_seg lkf_13 (p_TT 310) (p_INI 310) false (m_tgb s_310) p_rab (fun _ => false) (p_B 310) [.aload 1, .aload 0, .iload 5, .iconst 1, .iadd, .iaload, .aload 0, .iload 5, .iconst 2, .iadd, .iaload, .aload 3, .invokestatic 298, .istore 6, .aload 2, .aload 0, .iload 5, .iconst 1, .iadd, .iaload, .aload 0, .iload 5, .iconst 2, .iadd, .iaload, .invokevirtual 250, .istore 7, .aload 2, .invokevirtual 153, .iload 6, .if_icmp .eq 1554, .iconst 0, .ret 0] 1506 = some 1554 := by decide +kernel
set_option maxRecDepth 100000 in
theorem sg_63 : m_seg lkf_13 (p_TT 310) (p_INI 310) false (m_tgb s_310) p_rab (fun _ => false) (p_B 310) [.iload 6, .ifCond .ne 1571, .aload 3, .iconst 0, .laload, .iload 7, .i2l, .lcmp, .ifCond .eq 1571, .iconst 0, .ret 0] 1554 = some 1571 := by decide +kernel
set_option maxRecDepth 100000 in
theorem sg_64 : m_seg lkf_13 (p_TT 310) (p_INI 310) false (m_tgb s_310) p_rab (fun _ => false) (p_B 310) [.goto 2345] 1571 = some 1574 := by decide +kernel
set_option maxRecDepth 100000 in
theorem sg_65 : m_seg lkf_13 (p_TT 310) (p_INI 310) false (m_tgb s_310) p_rab (fun _ => false) (p_B 310) [.aload 1, .aload 0, .iload 5, .iconst 1, .iadd, .iaload, .aload 3, .invokestatic 299, .istore 6, .aload 2, .aload 0, .iload 5, .iconst 1, .iadd, .iaload, .invokevirtual 251, .istore 7, .aload 2, .invokevirtual 153, .iload 6, .if_icmp .eq 1610, .iconst 0, .ret 0] 1574 = some 1610 := by decide +kernel
set_option maxRecDepth 100000 in
theorem sg_66 : m_seg lkf_13 (p_TT 310) (p_INI 310) false (m_tgb s_310) p_rab (fun _ => false) (p_B 310) [.iload 6, .ifCond .ne 1627, .aload 3, .iconst 0, .laload, .iload 7, .i2l, .lcmp, .ifCond .eq 1627, .iconst 0, .ret 0] 1610 = some 1627 := by decide +kernel
set_option maxRecDepth 100000 in
theorem sg_67 : m_seg lkf_13 (p_TT 310) (p_INI 310) false (m_tgb s_310) p_rab (fun _ => false) (p_B 310) [.goto 2345] 1627 = some 1630 := by decide +kernel
set_option maxRecDepth 100000 in
theorem sg_68 : m_seg lkf_13 (p_TT 310) (p_INI 310) false (m_tgb s_310) p_rab (fun _ => false) (p_B 310) [.aload 1, .aload 0, .iload 5, .iconst 1, .iadd, .iaload, .aload 3, .invokestatic 300, .istore 6, .aload 2, .aload 0, .iload 5, .iconst 1, .iadd, .iaload, .invokevirtual 252, .istore 7, .aload 2, .invokevirtual 153, .iload 6, .if_icmp .eq 1666, .iconst 0, .ret 0] 1630 = some 1666 := by decide +kernel
set_option maxRecDepth 100000 in
theorem sg_69 : m_seg lkf_13 (p_TT 310) (p_INI 310) false (m_tgb s_310) p_rab (fun _ => false) (p_B 310) [.iload 6, .ifCond .ne 1683, .aload 3, .iconst 0, .laload, .iload 7, .i2l, .lcmp, .ifCond .eq 1683, .iconst 0, .ret 0] 1666 = some 1683 := by decide +kernel
set_option maxRecDepth 100000 in
theorem sg_70 : m_seg lkf_13 (p_TT 310) (p_INI 310) false (m_tgb s_310) p_rab (fun _ => false) (p_B 310) [.goto 2345] 1683 = some 1686 := by decide +kernel
set_option maxRecDepth 100000 in
theorem sg_71 : m_seg lkf_13 (p_TT 310) (p_INI 310) false (m_tgb s_310) p_rab (fun _ => false) (p_B 310) [.aload 1, .aload 0, .iload 5, .iconst 1, .iadd, .iaload, .aload 3, .invokestatic 301, .istore 6, .aload 2, .aload 0, .iload 5, .iconst 1, .iadd, .iaload, .invokevirtual 253, .istore 7, .aload 2, .invokevirtual 153, .iload 6, .if_icmp .eq 1722, .iconst 0, .ret 0] 1686 = some 1722 := by decide +kernel
set_option maxRecDepth 100000 in
theorem sg_72 : m_seg lkf_13 (p_TT 310) (p_INI 310) false (m_tgb s_310) p_rab (fun _ => false) (p_B 310) [.iload 6, .ifCond .ne 1739, .aload 3, .iconst 0, .laload, .iload 7, .i2l, .lcmp, .ifCond .eq 1739, .iconst 0, .ret 0] 1722 = some 1739 := by decide +kernel
set_option maxRecDepth 100000 in
theorem sg_73 : m_seg lkf_13 (p_TT 310) (p_INI 310) false (m_tgb s_310) p_rab (fun _ => false) (p_B 310) [.goto 2345] 1739 = some 1742 := by decide +kernel
set_option maxRecDepth 100000 in
theorem sg_74 : m_seg lkf_13 (p_TT 310) (p_INI 310) false (m_tgb s_310) p_rab (fun _ => false) (p_B 310) [.aload 1, .aload 0, .iload 5, .iconst 1, .iadd, .iaload, .aload 0, .iload 5, .iconst 2, .iadd, .iaload, .aload 3, .invokestatic 302, .istore 6, .aload 2, .aload 0, .iload 5, .iconst 1, .iadd, .iaload, .aload 0, .iload 5, .iconst 2, .iadd, .iaload, .invokevirtual 255, .istore 7, .aload 2, .invokevirtual 153, .iload 6, .if_icmp .eq 1790, .iconst 0, .ret 0] 1742 = some 1790 := by decide +kernel
set_option maxRecDepth 100000 in
theorem sg_75 : m_seg lkf_13 (p_TT 310) (p_INI 310) false (m_tgb s_310) p_rab (fun _ => false) (p_B 310) [.iload 6, .ifCond .ne 1807, .aload 3, .iconst 0, .laload, .iload 7, .i2l, .lcmp, .ifCond .eq 1807, .iconst 0, .ret 0] 1790 = some 1807 := by decide +kernel
set_option maxRecDepth 100000 in
theorem sg_76 : m_seg lkf_13 (p_TT 310) (p_INI 310) false (m_tgb s_310) p_rab (fun _ => false) (p_B 310) [.goto 2345] 1807 = some 1810 := by decide +kernel
set_option maxRecDepth 100000 in
theorem sg_77 : m_seg lkf_13 (p_TT 310) (p_INI 310) false (m_tgb s_310) p_rab (fun _ => false) (p_B 310) [.aload 1, .invokevirtual 135, .aload 2, .invokevirtual 256, .if_icmp .eq 2345, .iconst 0, .ret 0] 1810 = some 1823 := by decide +kernel
set_option maxRecDepth 100000 in
theorem sg_78 : m_seg lkf_13 (p_TT 310) (p_INI 310) false (m_tgb s_310) p_rab (fun _ => false) (p_B 310) [.aload 1, .aload 0, .iload 5, .iconst 1, .iadd, .iaload, .aload 0, .iload 5, .iconst 2, .iadd, .iaload, .aload 3, .invokestatic 303, .istore 6, .aload 2, .aload 0, .iload 5, .iconst 1, .iadd, .iaload, .aload 0, .iload 5, .iconst 2, .iadd, .iaload, .invokevirtual 257, .istore 7, .aload 2, .invokevirtual 153, .iload 6, .if_icmp .eq 1871, .iconst 0, .ret 0] 1823 = some 1871 := by decide +kernel
set_option maxRecDepth 100000 in
theorem sg_79 : m_seg lkf_13 (p_TT 310) (p_INI 310) false (m_tgb s_310) p_rab (fun _ => false) (p_B 310) [.iload 6, .ifCond .ne 1888, .aload 3, .iconst 0, .laload, .iload 7, .i2l, .lcmp, .ifCond .eq 1888, .iconst 0, .ret 0] 1871 = some 1888 := by decide +kernel
set_option maxRecDepth 100000 in
theorem sg_80 : m_seg lkf_13 (p_TT 310) (p_INI 310) false (m_tgb s_310) p_rab (fun _ => false) (p_B 310) [.goto 2345] 1888 = some 1891 := by decide +kernel
set_option maxRecDepth 100000 in
theorem sg_81 : m_seg lkf_13 (p_TT 310) (p_INI 310) false (m_tgb s_310) p_rab (fun _ => false) (p_B 310) [.aload 1, .aload 0, .iload 5, .iconst 1, .iadd, .iaload, .invokevirtual 137, .aload 2, .aload 0, .iload 5, .iconst 1, .iadd, .iaload, .invokevirtual 258, .if_icmp .eq 2345, .iconst 0, .ret 0] 1891 = some 1916 := by decide +kernel
set_option maxRecDepth 100000 in
theorem sg_82 : m_seg lkf_13 (p_TT 310) (p_INI 310) false (m_tgb s_310) p_rab (fun _ => false) (p_B 310) [.aload 1, .aload 0, .iload 5, .iconst 1, .iadd, .iaload, .aload 4, .invokestatic 304, .istore 6, .aload 2, .aload 0, .iload 5, .iconst 1, .iadd, .iaload, .invokevirtual 259, .dstore 7, .aload 2, .invokevirtual 153, .iload 6, .if_icmp .eq 1953, .iconst 0, .ret 0] 1916 = some 1953 := by decide +kernel
set_option maxRecDepth 100000 in
theorem sg_83 : m_seg lkf_13 (p_TT 310) (p_INI 310) false (m_tgb s_310) p_rab (fun _ => false) (p_B 310) [.iload 6, .ifCond .ne 1990, .aload 4, .iconst 0, .daload, .dload 7, .dcmp .l, .ifCond .eq 1990, .aload 4, .iconst 0, .daload, .aload 4, .iconst 0, .daload, .dcmp .l, .ifCond .eq 1988, .dload 7, .dload 7, .dcmp .l, .ifCond .ne 1990] 1953 = some 1988 := by decide +kernel
set_option maxRecDepth 100000 in
theorem sg_84 : m_seg lkf_13 (p_TT 310) (p_INI 310) false (m_tgb s_310) p_rab (fun _ => false) (p_B 310) [.iconst 0, .ret 0] 1988 = some 1990 := by decide +kernel
set_option maxRecDepth 100000 in
theorem sg_85 : m_seg lkf_13 (p_TT 310) (p_INI 310) false (m_tgb s_310) p_rab (fun _ => false) (p_B 310) [.goto 2345] 1990 = some 1993 := by decide +kernel
set_option maxRecDepth 100000 in
theorem sg_86 : m_seg lkf_13 (p_TT 310) (p_INI 310) false (m_tgb s_310) p_rab (fun _ => false) (p_B 310) [.aload 1, .aload 0, .iload 5, .iconst 1, .iadd, .iaload, .aload 4, .invokestatic 305, .istore 6, .aload 2, .aload 0, .iload 5, .iconst 1, .iadd, .iaload, .invokevirtual 260, .fstore 7, .aload 2, .invokevirtual 153, .iload 6, .if_icmp .eq 2030, .iconst 0, .ret 0] 1993 = some 2030 := by decide +kernel
set_option maxRecDepth 100000 in
theorem sg_87 : m_seg lkf_13 (p_TT 310) (p_INI 310) false (m_tgb s_310) p_rab (fun _ => false) (p_B 310) [.iload 6, .ifCond .ne 2068, .aload 4, .iconst 0, .daload, .fload 7, .f2d, .dcmp .l, .ifCond .eq 2068, .aload 4, .iconst 0, .daload, .aload 4, .iconst 0, .daload, .dcmp .l, .ifCond .eq 2066, .fload 7, .fload 7, .fcmp .l, .ifCond .ne 2068] 2030 = some 2066 := by decide +kernel
set_option maxRecDepth 100000 in
theorem sg_88 : m_seg lkf_13 (p_TT 310) (p_INI 310) false (m_tgb s_310) p_rab (fun _ => false) (p_B 310) [.iconst 0, .ret 0] 2066 = some 2068 := by decide +kernel
set_option maxRecDepth 100000 in
theorem sg_89 : m_seg lkf_13 (p_TT 310) (p_INI 310) false (m_tgb s_310) p_rab (fun _ => false) (p_B 310) [.goto 2345] 2068 = some 2071 := by decide +kernel
set_option maxRecDepth 100000 in
theorem sg_90 : m_seg lkf_13 (p_TT 310) (p_INI 310) false (m_tgb s_310) p_rab (fun _ => false) (p_B 310) [.aload 1, .aload 0, .iload 5, .iconst 1, .iadd, .iaload, .aload 3, .invokestatic 306, .istore 6, .aload 2, .aload 0, .iload 5, .iconst 1, .iadd, .iaload, .invokevirtual 274, .istore 7, .aload 2, .invokevirtual 153, .iload 6, .if_icmp .eq 2107, .iconst 0, .ret 0] 2071 = some 2107 := by decide +kernel
set_option maxRecDepth 100000 in
theorem sg_91 : m_seg lkf_13 (p_TT 310) (p_INI 310) false (m_tgb s_310) p_rab (fun _ => false) (p_B 310) [.iload 6, .ifCond .ne 2124, .aload 3, .iconst 0, .laload, .iload 7, .i2l, .lcmp, .ifCond .eq 2124, .iconst 0, .ret 0] 2107 = some 2124 := by decide +kernel
set_option maxRecDepth 100000 in
theorem sg_92 : m_seg lkf_13 (p_TT 310) (p_INI 310) false (m_tgb s_310) p_rab (fun _ => false) (p_B 310) [.goto 2345] 2124 = some 2127 := by decide +kernel
set_option maxRecDepth 100000 in
theorem sg_93 : m_seg lkf_13 (p_TT 310) (p_INI 310) false (m_tgb s_310) p_rab (fun _ => false) (p_B 310) [.aload 1, .aload 0, .iload 5, .iconst 1, .iadd, .iaload, .aload 3, .invokestatic 307, .istore 6, .aload 2, .aload 0, .iload 5, .iconst 1, .iadd, .iaload, .invokevirtual 275, .istore 7, .aload 2, .invokevirtual 153, .iload 6, .if_icmp .eq 2163, .iconst 0, .ret 0] 2127 = some 2163 := by decide +kernel
set_option maxRecDepth 100000 in
theorem sg_94 : m_seg lkf_13 (p_TT 310) (p_INI 310) false (m_tgb s_310) p_rab (fun _ => false) (p_B 310) [.iload 6, .ifCond .ne 2180, .aload 3, .iconst 0, .laload, .iload 7, .i2l, .lcmp, .ifCond .eq 2180, .iconst 0, .ret 0] 2163 = some 2180 := by decide +kernel
set_option maxRecDepth 100000 in
theorem sg_95 : m_seg lkf_13 (p_TT 310) (p_INI 310) false (m_tgb s_310) p_rab (fun _ => false) (p_B 310) [.goto 2345] 2180 = some 2183 := by decide +kernel
set_option maxRecDepth 100000 in
theorem sg_96 : m_seg lkf_13 (p_TT 310) (p_INI 310) false (m_tgb s_310) p_rab (fun _ => false) (p_B 310) [.aload 1, .aload 0, .iload 5, .iconst 1, .iadd, .iaload, .aload 3, .invokestatic 308, .istore 6, .aload 2, .aload 0, .iload 5, .iconst 1, .iadd, .iaload, .invokevirtual 276, .istore 7, .aload 2, .invokevirtual 153, .iload 6, .if_icmp .eq 2219, .iconst 0, .ret 0] 2183 = some 2219 := by decide +kernel
set_option maxRecDepth 100000 in
theorem sg_97 : m_seg lkf_13 (p_TT 310) (p_INI 310) false (m_tgb s_310) p_rab (fun _ => false) (p_B 310) [.iload 6, .ifCond .ne 2236, .aload 3, .iconst 0, .laload, .iload 7, .i2l, .lcmp, .ifCond .eq 2236, .iconst 0, .ret 0] 2219 = some 2236 := by decide +kernel
set_option maxRecDepth 100000 in
theorem sg_98 : m_seg lkf_13 (p_TT 310) (p_INI 310) false (m_tgb s_310) p_rab (fun _ => false) (p_B 310) [.goto 2345] 2236 = some 2239 := by decide +kernel
set_option maxRecDepth 100000 in
theorem sg_99 : m_seg lkf_13 (p_TT 310) (p_INI 310) false (m_tgb s_310) p_rab (fun _ => false) (p_B 310) [.aload 1, .invokevirtual 144, .aload 2, .invokevirtual 270, .if_icmp .eq 2345, .iconst 0, .ret 0] 2239 = some 2252 := by decide +kernel
set_option maxRecDepth 100000 in
theorem sg_100 : m_seg lkf_13 (p_TT 310) (p_INI 310) false (m_tgb s_310) p_rab (fun _ => false) (p_B 310) [.aload 1, .invokevirtual 145, .aload 2, .invokevirtual 271, .if_icmp .eq 2345, .iconst 0, .ret 0] 2252 = some 2265 := by decide +kernel
set_option maxRecDepth 100000 in
theorem sg_101 : m_seg lkf_13 (p_TT 310) (p_INI 310) false (m_tgb s_310) p_rab (fun _ => false) (p_B 310) [.aload 1, .invokevirtual 146, .aload 2, .invokevirtual 272, .goto 2345] 2265 = some 2276 := by decide +kernel
set_option maxRecDepth 100000 in
theorem sg_102 : m_seg lkf_13 (p_TT 310) (p_INI 310) false (m_tgb s_310) p_rab (fun _ => false) (p_B 310) [.aload 1, .invokevirtual 147, .aload 2, .invokevirtual 273, .if_icmp .eq 2345, .iconst 0, .ret 0] 2276 = some 2289 := by decide +kernel
set_option maxRecDepth 100000 in
theorem sg_103 : m_seg lkf_13 (p_TT 310) (p_INI 310) false (m_tgb s_310) p_rab (fun _ => false) (p_B 310) [.aload 1, .aload 0, .iload 5, .iconst 1, .iadd, .iaload, .aload 3, .invokestatic 309, .istore 6, .aload 2, .aload 0, .iload 5, .iconst 1, .iadd, .iaload, .invokevirtual 279, .istore 7, .aload 2, .invokevirtual 153, .iload 6, .if_icmp .eq 2325, .iconst 0, .ret 0] 2289 = some 2325 := by decide +kernel
set_option maxRecDepth 100000 in
theorem sg_104 : m_seg lkf_13 (p_TT 310) (p_INI 310) false (m_tgb s_310) p_rab (fun _ => false) (p_B 310) [.iload 6, .ifCond .ne 2342, .aload 3, .iconst 0, .laload, .iload 7, .i2l, .lcmp, .ifCond .eq 2342, .iconst 0, .ret 0] 2325 = some 2342 := by decide +kernel
set_option maxRecDepth 100000 in
theorem sg_105 : m_seg lkf_13 (p_TT 310) (p_INI 310) false (m_tgb s_310) p_rab (fun _ => false) (p_B 310) [.goto 2345] 2342 = some 2345 := by decide +kernel
set_option maxRecDepth 100000 in
theorem sg_106 : m_seg lkf_13 (p_TT 310) (p_INI 310) false (m_tgb s_310) p_rab (fun _ => false) (p_B 310) [.iinc 5 6, .goto 28] 2345 = some 2351 := by decide +kernel
set_option maxRecDepth 100000 in
theorem sg_107 : m_seg lkf_13 (p_TT 310) (p_INI 310) false (m_tgb s_310) p_rab (fun _ => false) (p_B 310) [.iconst 1, .ret 0] 2351 = some 2353 := by decide +kernel
