/-! the program of the small machine, written by wip/whole/emit.py out of the claim's own listing -/
/-- DriverHost$Code.<init>(I)V -/
def s_0 : List (Nat × List Instr) := [(0, [.aload 0, .invokespecial 9000, .aload 0, .iconst 0, .putfield 2, .aload 0, .iconst 64, .newarray .int, .putfield 3, .aload 0, .iload 1, .iconst 0, .invokestatic 9002, .newarray .int, .putfield 0, .aload 0, .iload 1, .iconst 0, .invokestatic 9002, .newarray .int, .putfield 1, .return_])]
/-- DriverHost$Code.add(II)V -/
def s_1 : List (Nat × List Instr) := [(0, [.aload 0, .getfield 2, .aload 0, .getfield 0, .ldc_w 100, .if_icmp .ge 54, .aload 0, .getfield 2, .aload 0, .getfield 1, .ldc_w 100, .if_icmp .ge 54, .aload 0, .getfield 0, .aload 0, .getfield 2, .iload 1, .iastore, .aload 0, .getfield 1, .aload 0, .getfield 2, .iload 2, .iastore, .aload 0, .dup, .getfield 2, .iconst 1, .iadd, .putfield 2]),
  (54, [.return_])]
/-- DriverHost$Code.execute(II[I)I -/
def s_2 : List (Nat × List Instr) := [(0, [.iconst 0, .istore 4, .iload 1, .iconst 0, .invokestatic 9002, .istore 5]),
  (10, [.iload 5, .iload 2, .if_icmp .ge 215, .iload 5, .aload 0, .getfield 2, .if_icmp .ge 215, .aload 0, .getfield 0, .iload 5, .iaload, .istore 6, .aload 0, .getfield 1, .iload 5, .iaload, .istore 7, .iload 6, .ifCond .eq 54, .iload 6, .iconst 1, .if_icmp .ne 93]),
  (54, [.iload 4, .aload 0, .getfield 3, .ldc_w 100, .if_icmp .ge 209, .aload 0, .getfield 3, .iload 4, .iload 6, .ifCond .ne 80, .iload 7, .goto 86]),
  (80, [.aload 3, .iload 7, .invokestatic 3]),
  (86, [.iastore, .iinc 4 1, .goto 209]),
  (93, [.iload 6, .iconst 2, .if_icmp .ne 136, .iload 4, .ifCond .le 209, .iload 7, .ifCond .lt 209, .iload 7, .aload 3, .ldc_w 100, .if_icmp .ge 209, .iinc 4 (-1), .aload 3, .iload 7, .aload 0, .getfield 3, .iload 4, .iaload, .iconst (65535), .iand, .iastore, .goto 209]),
  (136, [.iload 6, .iconst 3, .if_icmp .ne 170, .iload 4, .ifCond .le 209, .aload 0, .getfield 3, .iload 4, .iconst 1, .isub, .iconst 1, .aload 0, .getfield 3, .iload 4, .iconst 1, .isub, .iaload, .isub, .iastore, .goto 209]),
  (170, [.iload 4, .iconst 1, .if_icmp .le 209, .iinc 4 (-1), .aload 0, .getfield 3, .iload 4, .iconst 1, .isub, .iload 6, .aload 0, .getfield 3, .iload 4, .iconst 1, .isub, .iaload, .aload 0, .getfield 3, .iload 4, .iaload, .invokestatic 4, .iastore]),
  (209, [.iinc 5 1, .goto 10]),
  (215, [.iload 4, .ifCond .le 232, .aload 0, .getfield 3, .iload 4, .iconst 1, .isub, .iaload, .goto 233]),
  (232, [.iconst 0]),
  (233, [.ireturn])]
/-- DriverHost$Code.cellAt([II)I -/
def s_3 : List (Nat × List Instr) := [(0, [.iload 1, .ifCond .lt 16, .iload 1, .aload 0, .ldc_w 100, .if_icmp .ge 16, .aload 0, .iload 1, .iaload, .goto 17]),
  (16, [.iconst 0]),
  (17, [.ireturn])]
/-- DriverHost$Code.join(III)I -/
def s_4 : List (Nat × List Instr) := [(0, [.iload 0, .tableswitch 101 4 11 #[48, 52, 56, 60, 71, 82, 93, 97]]),
  (48, [.iload 1, .iload 2, .iadd, .ireturn]),
  (52, [.iload 1, .iload 2, .isub, .ireturn]),
  (56, [.iload 1, .iload 2, .imul, .ireturn]),
  (60, [.iload 1, .iload 2, .if_icmp .ge 69, .iconst 1, .goto 70]),
  (69, [.iconst 0]),
  (70, [.ireturn]),
  (71, [.iload 1, .iload 2, .if_icmp .ne 80, .iconst 1, .goto 81]),
  (80, [.iconst 0]),
  (81, [.ireturn]),
  (82, [.iload 1, .iload 2, .if_icmp .le 91, .iconst 1, .goto 92]),
  (91, [.iconst 0]),
  (92, [.ireturn]),
  (93, [.iload 1, .iload 2, .iand, .ireturn]),
  (97, [.iload 1, .iload 2, .ior, .ireturn]),
  (101, [.iconst 0, .ireturn])]
/-- DriverHost$Command.<init>()V -/
def s_5 : List (Nat × List Instr) := [(0, [.aload 0, .invokespecial 9000, .aload 0, .iconst (-1), .putfield 64, .aload 0, .iconst 0, .putfield 65, .aload 0, .iconst 1, .putfield 66, .aload 0, .iconst 0, .putfield 67, .aload 0, .iconst 0, .putfield 68, .aload 0, .iconst 0, .putfield 69, .aload 0, .iconst 0, .putfield 70, .aload 0, .iconst 0, .putfield 71, .return_])]
/-- DriverHost$Driver.<init>(I)V -/
def s_6 : List (Nat × List Instr) := [(0, [.aload 0, .invokespecial 9000, .aload 0, .iconst 0, .putfield 129, .aload 0, .iconst (-1), .putfield 130, .aload 0, .iconst 0, .putfield 131, .aload 0, .iconst 0, .putfield 132, .aload 0, .iconst 14, .newarray .int, .putfield 133, .aload 0, .iconst 4, .newarray .int, .putfield 134, .aload 0, .iconst 20, .newarray .int, .putfield 135, .aload 0, .iconst 0, .putfield 136, .aload 0, .iconst (-1), .putfield 137, .aload 0, .iconst (-1), .putfield 138, .aload 0, .iconst 0, .putfield 139, .aload 0, .iconst (2147483647), .putfield 140, .aload 0, .iconst 0, .putfield 141, .aload 0, .iconst 0, .putfield 142, .aload 0, .iconst 0, .putfield 143, .aload 0, .iload 1, .putfield 128, .return_])]
/-- DriverHost$Driver.copyFrom(LDriverHost$Driver;)V -/
def s_7 : List (Nat × List Instr) := [(0, [.aload 0, .aload 1, .getfield 129, .putfield 129, .aload 0, .aload 1, .getfield 130, .putfield 130, .aload 0, .aload 1, .getfield 131, .putfield 131, .aload 0, .aload 1, .getfield 132, .putfield 132, .aload 1, .getfield 133, .iconst 0, .aload 0, .getfield 133, .iconst 0, .iconst 14, .invokestatic 9003, .aload 1, .getfield 134, .iconst 0, .aload 0, .getfield 134, .iconst 0, .iconst 4, .invokestatic 9003, .aload 1, .getfield 135, .iconst 0, .aload 0, .getfield 135, .iconst 0, .iconst 20, .invokestatic 9003, .aload 0, .aload 1, .getfield 136, .putfield 136, .aload 0, .aload 1, .getfield 137, .putfield 137, .aload 0, .aload 1, .getfield 138, .putfield 138, .aload 0, .aload 1, .getfield 139, .putfield 139, .aload 0, .aload 1, .getfield 140, .putfield 140, .aload 0, .aload 1, .getfield 141, .putfield 141, .aload 0, .aload 1, .getfield 142, .putfield 142, .aload 0, .aload 1, .getfield 143, .putfield 143, .return_])]
/-- DriverHost$Driver.registerAt(I)I -/
def s_8 : List (Nat × List Instr) := [(0, [.iload 1, .ifCond .lt 10, .iload 1, .iconst 8, .if_icmp .lt 20]),
  (10, [.invokedynamic 0]),
  (20, [.aload 0, .getfield 133, .iload 1, .iaload, .ireturn])]
/-- DriverHost$Driver.variableAt(I)I -/
def s_9 : List (Nat × List Instr) := [(0, [.iload 1, .ifCond .lt 9, .iload 1, .iconst 4, .if_icmp .lt 19]),
  (9, [.invokedynamic 0]),
  (19, [.aload 0, .getfield 133, .iconst 8, .iload 1, .iadd, .iaload, .ireturn])]
/-- DriverHost$Driver.snapshotAt(I)I -/
def s_10 : List (Nat × List Instr) := [(0, [.iload 1, .ifCond .lt 13, .iload 1, .aload 0, .getfield 134, .ldc_w 100, .if_icmp .lt 23]),
  (13, [.invokedynamic 0]),
  (23, [.aload 0, .getfield 134, .iload 1, .iaload, .ireturn])]
/-- DriverHost$Driver.logAt(I)I -/
def s_11 : List (Nat × List Instr) := [(0, [.iload 1, .ifCond .lt 30, .iload 1, .aload 0, .getfield 136, .if_icmp .ge 30, .iload 1, .aload 0, .getfield 135, .ldc_w 100, .if_icmp .ge 30, .aload 0, .getfield 135, .iload 1, .iaload, .goto 31]),
  (30, [.iconst (-1)]),
  (31, [.ireturn])]
/-- DriverHost$Driver.store(II)V -/
def s_12 : List (Nat × List Instr) := [(0, [.iload 1, .ifCond .lt 17, .iload 1, .iconst 8, .if_icmp .ge 17, .aload 0, .getfield 133, .iload 1, .iload 2, .iastore]),
  (17, [.return_])]
/-- DriverHost$Driver.present(II)V -/
def s_13 : List (Nat × List Instr) := [(0, [.aload 0, .getfield 133, .iconst 12, .iload 1, .iastore, .aload 0, .getfield 133, .iconst 13, .iload 2, .iastore, .return_])]
/-- DriverHost$Driver.addToLog(I)V -/
def s_14 : List (Nat × List Instr) := [(0, [.aload 0, .getfield 136, .aload 0, .getfield 135, .ldc_w 100, .if_icmp .ge 32, .aload 0, .getfield 135, .aload 0, .getfield 136, .iload 1, .iastore, .aload 0, .dup, .getfield 136, .iconst 1, .iadd, .putfield 136]),
  (32, [.return_])]
/-- DriverHost$Driver.goDown(I)V -/
def s_15 : List (Nat × List Instr) := [(0, [.aload 0, .iconst 1, .putfield 129, .aload 0, .iload 1, .putfield 130, .aload 0, .invokevirtual 16, .return_])]
/-- DriverHost$Driver.clearVariables()V -/
def s_16 : List (Nat × List Instr) := [(0, [.iconst 0, .istore 1]),
  (2, [.iload 1, .iconst 4, .if_icmp .ge 23, .aload 0, .getfield 133, .iconst 8, .iload 1, .iadd, .iconst 0, .iastore, .iinc 1 1, .goto 2]),
  (23, [.return_])]
/-- DriverHost$Driver.saveVariables()V -/
def s_17 : List (Nat × List Instr) := [(0, [.aload 0, .getfield 133, .iconst 8, .aload 0, .getfield 134, .iconst 0, .iconst 4, .invokestatic 9003, .return_])]
/-- DriverHost$Driver.restoreVariables()V -/
def s_18 : List (Nat × List Instr) := [(0, [.aload 0, .getfield 134, .iconst 0, .aload 0, .getfield 133, .iconst 8, .iconst 4, .invokestatic 9003, .return_])]
/-- DriverHost$History.<init>()V -/
def s_19 : List (Nat × List Instr) := [(0, [.aload 0, .invokespecial 9000, .aload 0, .iconst 10, .anewarray 10, .putfield 192, .aload 0, .iconst 0, .putfield 193, .aload 0, .iconst 0, .putfield 194, .return_])]
/-- DriverHost$History.clear()V -/
def s_20 : List (Nat × List Instr) := [(0, [.aload 0, .iconst 0, .putfield 194, .return_])]
/-- DriverHost$History.remember(LDriverHost$World;)V -/
def s_21 : List (Nat × List Instr) := [(0, [.aload 0, .getfield 192, .aload 0, .getfield 193, .checkcast 10, .astore 2, .aload 2, .ifnonnull 36, .new 10, .dup, .aload 1, .getfield 640, .invokespecial 77, .astore 2, .aload 0, .getfield 192, .aload 0, .getfield 193, .aload 2, .instanceof 10]),
  (36, [.aload 2, .aload 1, .invokevirtual 78, .aload 0, .aload 0, .getfield 193, .iconst 1, .iadd, .iconst 10, .irem, .putfield 193, .aload 0, .aload 0, .getfield 194, .iconst 1, .iadd, .iconst 10, .invokestatic 9001, .putfield 194, .return_])]
/-- DriverHost$History.takeBack(LDriverHost$World;)I -/
def s_22 : List (Nat × List Instr) := [(0, [.aload 0, .getfield 194, .ifCond .ne 9, .iconst (-1), .ireturn]),
  (9, [.aload 0, .aload 0, .getfield 193, .iconst 10, .iadd, .iconst 1, .isub, .iconst 10, .irem, .putfield 193, .aload 0, .dup, .getfield 194, .iconst 1, .isub, .putfield 194, .aload 0, .getfield 192, .aload 0, .getfield 193, .checkcast 10, .astore 2, .aload 2, .ifnull 54, .aload 1, .aload 2, .invokevirtual 78]),
  (54, [.aload 0, .getfield 194, .ireturn])]
/-- DriverHost$Journal.<init>()V -/
def s_23 : List (Nat × List Instr) := [(0, [.aload 0, .invokespecial 9000, .aload 0, .iconst 200, .newarray .int, .putfield 256, .aload 0, .iconst 200, .newarray .int, .putfield 257, .aload 0, .iconst 200, .newarray .int, .putfield 258, .aload 0, .iconst 200, .newarray .int, .putfield 259, .aload 0, .iconst 9, .newarray .int, .putfield 260, .aload 0, .iconst 0, .putfield 261, .aload 0, .iconst 0, .putfield 262, .return_])]
/-- DriverHost$Journal.copyFrom(LDriverHost$Journal;)V -/
def s_24 : List (Nat × List Instr) := [(0, [.aload 1, .getfield 256, .iconst 0, .aload 0, .getfield 256, .iconst 0, .iconst 200, .invokestatic 9003, .aload 1, .getfield 257, .iconst 0, .aload 0, .getfield 257, .iconst 0, .iconst 200, .invokestatic 9003, .aload 1, .getfield 258, .iconst 0, .aload 0, .getfield 258, .iconst 0, .iconst 200, .invokestatic 9003, .aload 1, .getfield 259, .iconst 0, .aload 0, .getfield 259, .iconst 0, .iconst 200, .invokestatic 9003, .aload 1, .getfield 260, .iconst 0, .aload 0, .getfield 260, .iconst 0, .iconst 9, .invokestatic 9003, .aload 0, .aload 1, .getfield 261, .putfield 261, .aload 0, .aload 1, .getfield 262, .putfield 262, .return_])]
/-- DriverHost$Journal.add(IIII)V -/
def s_25 : List (Nat × List Instr) := [(0, [.aload 0, .getfield 261, .aload 0, .getfield 262, .iadd, .iconst 200, .irem, .istore 5, .aload 0, .getfield 256, .iload 5, .iload 1, .iastore, .aload 0, .getfield 257, .iload 5, .iload 2, .iastore, .aload 0, .getfield 258, .iload 5, .iload 3, .iastore, .aload 0, .getfield 259, .iload 5, .iload 4, .iastore, .aload 0, .getfield 262, .iconst 200, .if_icmp .ge 71, .aload 0, .dup, .getfield 262, .iconst 1, .iadd, .putfield 262, .goto 85]),
  (71, [.aload 0, .aload 0, .getfield 261, .iconst 1, .iadd, .iconst 200, .irem, .putfield 261]),
  (85, [.iload 2, .ifCond .lt 108, .iload 2, .aload 0, .getfield 260, .ldc_w 100, .if_icmp .ge 108, .aload 0, .getfield 260, .iload 2, .dup2, .iaload, .iconst 1, .iadd, .iastore]),
  (108, [.return_])]
/-- DriverHost$Journal.valueAt(II)I -/
def s_26 : List (Nat × List Instr) := [(0, [.iload 1, .ifCond .lt 12, .iload 1, .aload 0, .getfield 262, .if_icmp .lt 22]),
  (12, [.invokedynamic 0]),
  (22, [.aload 0, .getfield 261, .iload 1, .iadd, .iconst 200, .irem, .istore 3, .iload 2, .tableswitch 92 0 3 #[64, 71, 78, 85]]),
  (64, [.aload 0, .getfield 256, .iload 3, .iaload, .ireturn]),
  (71, [.aload 0, .getfield 257, .iload 3, .iaload, .ireturn]),
  (78, [.aload 0, .getfield 258, .iload 3, .iaload, .ireturn]),
  (85, [.aload 0, .getfield 259, .iload 3, .iaload, .ireturn]),
  (92, [.invokedynamic 0])]
/-- DriverHost$Journal.totalOf(I)I -/
def s_27 : List (Nat × List Instr) := [(0, [.iload 1, .ifCond .lt 22, .iload 1, .aload 0, .getfield 260, .ldc_w 100, .if_icmp .ge 22, .aload 0, .getfield 260, .iload 1, .iaload, .goto 23]),
  (22, [.iconst (-1)]),
  (23, [.ireturn])]
/-- DriverHost$Program.<init>(I)V -/
def s_28 : List (Nat × List Instr) := [(0, [.aload 0, .invokespecial 9000, .aload 0, .iconst 1, .putfield 320, .aload 0, .iconst 0, .putfield 321, .aload 0, .iconst 8, .anewarray 1, .putfield 322, .aload 0, .iconst 2, .putfield 323, .aload 0, .iconst 32, .putfield 324, .aload 0, .iconst 20, .putfield 325, .aload 0, .iconst 5, .putfield 326, .aload 0, .iconst 3, .putfield 327, .aload 0, .iconst 4, .putfield 328, .aload 0, .iconst 1, .putfield 329, .aload 0, .new 0, .dup, .iload 1, .invokespecial 0, .putfield 330, .return_])]
/-- DriverHost$Program.commandAt(I)LDriverHost$Command; -/
def s_29 : List (Nat × List Instr) := [(0, [.iload 1, .ifCond .lt 21, .iload 1, .aload 0, .getfield 321, .if_icmp .ge 21, .iload 1, .aload 0, .getfield 322, .ldc_w 201, .if_icmp .lt 25]),
  (21, [.aconst_null, .goto 31]),
  (25, [.aload 0, .getfield 322, .iload 1, .checkcast 1]),
  (31, [.astore 2, .aload 2, .ifnonnull 46, .invokedynamic 0]),
  (46, [.aload 2, .areturn])]
/-- DriverHost$Program.addCommand(LDriverHost$Command;)V -/
def s_30 : List (Nat × List Instr) := [(0, [.aload 0, .getfield 321, .aload 0, .getfield 322, .ldc_w 201, .if_icmp .ge 32, .aload 0, .getfield 322, .aload 0, .getfield 321, .aload 1, .instanceof 1, .aload 0, .dup, .getfield 321, .iconst 1, .iadd, .putfield 321]),
  (32, [.return_])]
/-- DriverHost$Reader.<init>([BIZ)V -/
def s_31 : List (Nat × List Instr) := [(0, [.aload 0, .invokespecial 9000, .aload 0, .iconst 0, .putfield 388, .aload 0, .iconst 0, .putfield 389, .aload 0, .iconst 0, .putfield 390, .aload 0, .new 8, .dup, .aload 1, .iload 2, .invokespecial 60, .putfield 384, .aload 0, .iload 3, .putfield 385, .aload 0, .new 5, .dup, .iload 2, .invokespecial 28, .putfield 386, .aload 0, .aload 0, .getfield 386, .getfield 330, .putfield 387, .return_])]
/-- DriverHost$Reader.readText()V -/
def s_32 : List (Nat × List Instr) := [(0, [.aload 0, .getfield 384, .invokevirtual 61, .aload 0, .getstatic 1000000001, .invokevirtual 34, .aload 0, .getfield 386, .aload 0, .iconst 1, .iconst 4, .invokevirtual 36, .putfield 320, .aload 0, .iconst 59, .invokevirtual 35, .iconst 0, .istore 1]),
  (35, [.iload 1, .iconst 1000, .if_icmp .ge 68, .aload 0, .getfield 384, .invokevirtual 68, .ifCond .ne 68, .aload 0, .invokevirtual 37, .aload 0, .iconst 59, .invokevirtual 35, .iinc 1 1, .goto 35]),
  (68, [.return_])]
/-- DriverHost$Reader.readQuery()V -/
def s_33 : List (Nat × List Instr) := [(0, [.aload 0, .getfield 384, .invokevirtual 61, .aload 0, .aload 0, .getfield 384, .getstatic 1000000014, .invokevirtual 73, .putfield 388, .aload 0, .aload 0, .getfield 388, .ifCond .eq 35, .getstatic 1000000014, .goto 38]),
  (35, [.getstatic 1000000013]),
  (38, [.invokevirtual 34, .aload 0, .invokevirtual 42, .aload 0, .getfield 384, .invokevirtual 68, .ifCond .ne 63, .aload 0, .getfield 384, .iconst 1, .invokevirtual 75]),
  (63, [.return_])]
/-- DriverHost$Reader.takeWord(LDriverHost$Word;)V -/
def s_34 : List (Nat × List Instr) := [(0, [.aload 0, .getfield 384, .aload 1, .invokevirtual 73, .ifCond .eq 21, .aload 0, .getfield 384, .invokevirtual 67, .goto 29]),
  (21, [.aload 0, .getfield 384, .iconst 1, .invokevirtual 75]),
  (29, [.return_])]
/-- DriverHost$Reader.takeSign(C)V -/
def s_35 : List (Nat × List Instr) := [(0, [.aload 0, .getfield 384, .iload 1, .invokevirtual 72, .ifCond .eq 21, .aload 0, .getfield 384, .invokevirtual 67, .goto 29]),
  (21, [.aload 0, .getfield 384, .iconst 1, .invokevirtual 75]),
  (29, [.return_])]
/-- DriverHost$Reader.takeNumber(II)I -/
def s_36 : List (Nat × List Instr) := [(0, [.aload 0, .getfield 384, .invokevirtual 70, .istore 3, .aload 0, .getfield 384, .invokevirtual 71, .ifCond .ne 28, .aload 0, .getfield 384, .iconst 1, .invokevirtual 75, .iload 1, .ireturn]),
  (28, [.iload 3, .iload 1, .if_icmp .lt 38, .iload 3, .iload 2, .if_icmp .le 48]),
  (38, [.aload 0, .getfield 384, .iconst 2, .invokevirtual 75, .iload 1, .ireturn]),
  (48, [.aload 0, .getfield 384, .invokevirtual 67, .iload 3, .ireturn])]
/-- DriverHost$Reader.readClause()V -/
def s_37 : List (Nat × List Instr) := [(0, [.aload 0, .getfield 384, .invokevirtual 69, .astore 1, .aload 1, .getstatic 1000000002, .if_acmp .ne 20, .aload 0, .invokevirtual 38, .return_]),
  (20, [.aload 1, .ifnull 31, .aload 1, .ldc 0, .ifCond .ne 40]),
  (31, [.aload 0, .getfield 384, .iconst 1, .invokevirtual 75, .return_]),
  (40, [.aload 0, .getfield 384, .invokevirtual 67, .aload 1, .getstatic 1000000015, .if_acmp .ne 92, .aload 0, .getfield 386, .aload 0, .iconst 1, .iconst 100, .invokevirtual 36, .putfield 323, .aload 0, .getfield 386, .aload 0, .aload 0, .getfield 386, .getfield 323, .iconst 1000, .invokevirtual 36, .putfield 324, .goto 203]),
  (92, [.aload 1, .getstatic 1000000016, .if_acmp .ne 117, .aload 0, .getfield 386, .aload 0, .iconst 1, .iconst 1000, .invokevirtual 36, .putfield 325, .goto 203]),
  (117, [.aload 1, .getstatic 1000000017, .if_acmp .ne 141, .aload 0, .getfield 386, .aload 0, .iconst 0, .iconst 20, .invokevirtual 36, .putfield 326, .goto 203]),
  (141, [.aload 1, .getstatic 1000000018, .if_acmp .ne 165, .aload 0, .getfield 386, .aload 0, .iconst 1, .iconst 20, .invokevirtual 36, .putfield 327, .goto 203]),
  (165, [.aload 1, .getstatic 1000000019, .if_acmp .ne 189, .aload 0, .getfield 386, .aload 0, .iconst 1, .iconst 20, .invokevirtual 36, .putfield 328, .goto 203]),
  (189, [.aload 0, .getfield 386, .aload 0, .iconst 1, .iconst 50, .invokevirtual 36, .putfield 329]),
  (203, [.return_])]
/-- DriverHost$Reader.readCommand()V -/
def s_38 : List (Nat × List Instr) := [(0, [.aload 0, .getfield 386, .getfield 321, .iconst 8, .if_icmp .lt 21, .aload 0, .getfield 384, .iconst 3, .invokevirtual 75, .return_]),
  (21, [.aload 0, .getfield 384, .invokevirtual 67, .new 1, .dup, .invokespecial 5, .astore 1, .aload 0, .aload 1, .invokevirtual 39, .aload 0, .aload 1, .invokevirtual 40, .aload 1, .aload 0, .getfield 387, .getfield 2, .putfield 67, .aload 1, .getfield 65, .iconst 3, .if_icmp .ne 74, .aload 0, .iconst 0, .putfield 390, .aload 0, .invokevirtual 42]),
  (74, [.aload 0, .getstatic 1000000003, .invokevirtual 34, .aload 1, .aload 0, .iconst 1, .iconst 50, .invokevirtual 36, .putfield 66, .aload 1, .aload 0, .getfield 387, .getfield 2, .putfield 68, .aload 0, .getfield 384, .getstatic 1000000033, .invokevirtual 73, .ifCond .eq 132, .aload 0, .getfield 384, .invokevirtual 67, .aload 0, .iconst 1, .putfield 390, .aload 0, .invokevirtual 48]),
  (132, [.aload 1, .aload 0, .getfield 387, .getfield 2, .putfield 69, .aload 0, .iconst 2, .putfield 390, .aload 0, .getstatic 1000000004, .iconst 0, .iconst 8, .invokevirtual 41, .aload 1, .aload 0, .getfield 387, .getfield 2, .putfield 70, .aload 0, .iconst 3, .putfield 390, .aload 0, .getstatic 1000000005, .iconst 8, .iconst 4, .invokevirtual 41, .aload 1, .aload 0, .getfield 387, .getfield 2, .putfield 71, .aload 0, .getfield 386, .aload 1, .invokevirtual 30, .return_])]
/-- DriverHost$Reader.readName(LDriverHost$Command;)V -/
def s_39 : List (Nat × List Instr) := [(0, [.aload 0, .getfield 384, .invokevirtual 74, .ifCond .ne 19, .aload 0, .getfield 384, .iconst 1, .invokevirtual 75, .return_]),
  (19, [.iconst 0, .istore 2]),
  (21, [.iload 2, .aload 0, .getfield 386, .getfield 321, .if_icmp .ge 75, .aload 0, .getfield 384, .aload 0, .getfield 386, .iload 2, .invokevirtual 29, .getfield 64, .aload 0, .getfield 384, .getfield 520, .invokevirtual 76, .ifCond .eq 69, .aload 0, .getfield 384, .iconst 4, .invokevirtual 75, .return_]),
  (69, [.iinc 2 1, .goto 21]),
  (75, [.aload 1, .aload 0, .getfield 384, .getfield 520, .putfield 64, .aload 0, .getfield 384, .invokevirtual 67, .return_])]
/-- DriverHost$Reader.readClass(LDriverHost$Command;)V -/
def s_40 : List (Nat × List Instr) := [(0, [.aload 0, .getfield 384, .invokevirtual 69, .astore 2, .aload 2, .ifnull 20, .aload 2, .ldc 1, .iconst (-1), .if_icmp .ne 29]),
  (20, [.aload 0, .getfield 384, .iconst 1, .invokevirtual 75, .return_]),
  (29, [.aload 1, .aload 2, .ldc 1, .putfield 65, .aload 0, .getfield 384, .invokevirtual 67, .return_])]
/-- DriverHost$Reader.readStores(LDriverHost$Word;II)V -/
def s_41 : List (Nat × List Instr) := [(0, [.iconst 0, .istore 4]),
  (3, [.iload 4, .iconst 1000, .if_icmp .ge 67, .aload 0, .getfield 384, .aload 1, .invokevirtual 73, .ifCond .eq 67, .aload 0, .getfield 384, .invokevirtual 67, .aload 0, .iconst 0, .iload 3, .iconst 1, .isub, .invokevirtual 36, .istore 5, .aload 0, .iconst 61, .invokevirtual 35, .aload 0, .invokevirtual 48, .aload 0, .getfield 387, .iconst 2, .iload 2, .iload 5, .iadd, .invokevirtual 1, .iinc 4 1, .goto 3]),
  (67, [.return_])]
/-- DriverHost$Reader.readTest()V -/
def s_42 : List (Nat × List Instr) := [(0, [.aload 0, .invokevirtual 43, .iconst 0, .istore 1]),
  (6, [.iload 1, .iconst 1000, .if_icmp .ge 53, .aload 0, .getfield 384, .getstatic 1000000006, .invokevirtual 73, .ifCond .eq 53, .aload 0, .getfield 384, .invokevirtual 67, .aload 0, .invokevirtual 43, .aload 0, .getfield 387, .iconst 11, .iconst 0, .invokevirtual 1, .iinc 1 1, .goto 6]),
  (53, [.return_])]
/-- DriverHost$Reader.readConjunction()V -/
def s_43 : List (Nat × List Instr) := [(0, [.aload 0, .invokevirtual 44, .iconst 0, .istore 1]),
  (6, [.iload 1, .iconst 1000, .if_icmp .ge 53, .aload 0, .getfield 384, .getstatic 1000000007, .invokevirtual 73, .ifCond .eq 53, .aload 0, .getfield 384, .invokevirtual 67, .aload 0, .invokevirtual 44, .aload 0, .getfield 387, .iconst 10, .iconst 0, .invokevirtual 1, .iinc 1 1, .goto 6]),
  (53, [.return_])]
/-- DriverHost$Reader.readFactor()V -/
def s_44 : List (Nat × List Instr) := [(0, [.aload 0, .getfield 384, .getstatic 1000000008, .invokevirtual 73, .ifCond .eq 46, .aload 0, .invokevirtual 45, .ifCond .eq 166, .aload 0, .invokevirtual 44, .aload 0, .getfield 387, .iconst 3, .iconst 0, .invokevirtual 1, .aload 0, .dup, .getfield 389, .iconst 1, .isub, .putfield 389, .goto 166]),
  (46, [.aload 0, .getfield 384, .aload 0, .getfield 385, .ifCond .eq 62, .iconst 40, .goto 64]),
  (62, [.iconst 91]),
  (64, [.invokevirtual 72, .ifCond .eq 112, .aload 0, .invokevirtual 45, .ifCond .eq 166, .aload 0, .invokevirtual 42, .aload 0, .aload 0, .getfield 385, .ifCond .eq 94, .iconst 41, .goto 96]),
  (94, [.iconst 93]),
  (96, [.invokevirtual 35, .aload 0, .dup, .getfield 389, .iconst 1, .isub, .putfield 389, .goto 166]),
  (112, [.aload 0, .getfield 385, .ifCond .eq 144, .aload 0, .invokevirtual 47, .aload 0, .invokevirtual 46, .istore 1, .aload 0, .invokevirtual 47, .aload 0, .getfield 387, .iload 1, .iconst 0, .invokevirtual 1, .goto 166]),
  (144, [.aload 0, .invokevirtual 48, .aload 0, .invokevirtual 46, .istore 1, .aload 0, .invokevirtual 48, .aload 0, .getfield 387, .iload 1, .iconst 0, .invokevirtual 1]),
  (166, [.return_])]
/-- DriverHost$Reader.opens()Z -/
def s_45 : List (Nat × List Instr) := [(0, [.aload 0, .getfield 389, .iconst 6, .if_icmp .lt 19, .aload 0, .getfield 384, .iconst 3, .invokevirtual 75, .iconst 0, .ret 0]),
  (19, [.aload 0, .dup, .getfield 389, .iconst 1, .iadd, .putfield 389, .aload 0, .getfield 384, .invokevirtual 67, .iconst 1, .ret 0])]
/-- DriverHost$Reader.takeComparison()I -/
def s_46 : List (Nat × List Instr) := [(0, [.aload 0, .getfield 384, .iconst 60, .invokevirtual 72, .ifCond .eq 17, .iconst 7, .goto 36]),
  (17, [.aload 0, .getfield 384, .iconst 62, .invokevirtual 72, .ifCond .eq 34, .iconst 9, .goto 36]),
  (34, [.iconst 8]),
  (36, [.istore 1, .iload 1, .iconst 8, .if_icmp .ne 63, .aload 0, .getfield 384, .iconst 61, .invokevirtual 72, .ifCond .ne 63, .aload 0, .getfield 384, .iconst 1, .invokevirtual 75]),
  (63, [.aload 0, .getfield 384, .invokevirtual 67, .iload 1, .ireturn])]
/-- DriverHost$Reader.readProperty()V -/
def s_47 : List (Nat × List Instr) := [(0, [.aload 0, .getfield 384, .invokevirtual 69, .astore 1, .aload 0, .getfield 384, .invokevirtual 71, .ifCond .eq 37, .aload 0, .getfield 387, .iconst 0, .aload 0, .iconst 0, .iconst (99999), .invokevirtual 36, .invokevirtual 1, .goto 79]),
  (37, [.aload 1, .ifnull 71, .aload 1, .ldc 2, .iconst (-1), .if_icmp .eq 71, .aload 0, .getfield 387, .iconst 1, .aload 1, .ldc 2, .invokevirtual 1, .aload 0, .getfield 384, .invokevirtual 67, .goto 79]),
  (71, [.aload 0, .getfield 384, .iconst 1, .invokevirtual 75]),
  (79, [.return_])]
/-- DriverHost$Reader.readSum()V -/
def s_48 : List (Nat × List Instr) := [(0, [.aload 0, .invokevirtual 49, .iconst 0, .istore 1]),
  (6, [.iload 1, .iconst 1000, .if_icmp .ge 81, .aload 0, .getfield 384, .iconst 43, .invokevirtual 72, .ifCond .ne 37, .aload 0, .getfield 384, .iconst 45, .invokevirtual 72, .ifCond .eq 81]),
  (37, [.aload 0, .getfield 384, .iconst 43, .invokevirtual 72, .ifCond .eq 53, .iconst 4, .goto 54]),
  (53, [.iconst 5]),
  (54, [.istore 2, .aload 0, .getfield 384, .invokevirtual 67, .aload 0, .invokevirtual 49, .aload 0, .getfield 387, .iload 2, .iconst 0, .invokevirtual 1, .iinc 1 1, .goto 6]),
  (81, [.return_])]
/-- DriverHost$Reader.readProduct()V -/
def s_49 : List (Nat × List Instr) := [(0, [.aload 0, .invokevirtual 50, .iconst 0, .istore 1]),
  (6, [.iload 1, .iconst 1000, .if_icmp .ge 52, .aload 0, .getfield 384, .iconst 42, .invokevirtual 72, .ifCond .eq 52, .aload 0, .getfield 384, .invokevirtual 67, .aload 0, .invokevirtual 50, .aload 0, .getfield 387, .iconst 6, .iconst 0, .invokevirtual 1, .iinc 1 1, .goto 6]),
  (52, [.return_])]
/-- DriverHost$Reader.readOperand()V -/
def s_50 : List (Nat × List Instr) := [(0, [.aload 0, .getfield 384, .invokevirtual 71, .ifCond .eq 29, .aload 0, .getfield 387, .iconst 0, .aload 0, .iconst 0, .iconst (65535), .invokevirtual 36, .invokevirtual 1, .goto 254]),
  (29, [.aload 0, .getfield 384, .iconst 40, .invokevirtual 72, .ifCond .eq 71, .aload 0, .invokevirtual 45, .ifCond .eq 254, .aload 0, .invokevirtual 48, .aload 0, .iconst 41, .invokevirtual 35, .aload 0, .dup, .getfield 389, .iconst 1, .isub, .putfield 389, .goto 254]),
  (71, [.aload 0, .getfield 384, .getstatic 1000000009, .invokevirtual 73, .ifCond .eq 117, .aload 0, .getfield 390, .iconst 3, .if_icmp .eq 117, .aload 0, .getfield 384, .invokevirtual 67, .aload 0, .getfield 387, .iconst 1, .aload 0, .iconst 0, .iconst 7, .invokevirtual 36, .invokevirtual 1, .goto 254]),
  (117, [.aload 0, .getfield 384, .getstatic 1000000010, .invokevirtual 73, .ifCond .eq 164, .aload 0, .getfield 390, .ifCond .eq 164, .aload 0, .getfield 384, .invokevirtual 67, .aload 0, .getfield 387, .iconst 1, .iconst 8, .aload 0, .iconst 0, .iconst 3, .invokevirtual 36, .iadd, .invokevirtual 1, .goto 254]),
  (164, [.aload 0, .getfield 384, .getstatic 1000000011, .invokevirtual 73, .ifCond .eq 197, .aload 0, .getfield 384, .invokevirtual 67, .aload 0, .getfield 387, .iconst 1, .iconst 12, .invokevirtual 1, .goto 254]),
  (197, [.aload 0, .getfield 384, .getstatic 1000000012, .invokevirtual 73, .ifCond .eq 246, .aload 0, .getfield 390, .iconst 2, .if_icmp .eq 226, .aload 0, .getfield 390, .iconst 3, .if_icmp .ne 246]),
  (226, [.aload 0, .getfield 384, .invokevirtual 67, .aload 0, .getfield 387, .iconst 1, .iconst 13, .invokevirtual 1, .goto 254]),
  (246, [.aload 0, .getfield 384, .iconst 1, .invokevirtual 75]),
  (254, [.return_])]
/-- DriverHost$Request.<init>(I)V -/
def s_51 : List (Nat × List Instr) := [(0, [.aload 0, .invokespecial 9000, .aload 0, .iconst 0, .putfield 449, .aload 0, .iconst 0, .putfield 450, .aload 0, .iconst 0, .putfield 451, .aload 0, .iconst 0, .putfield 452, .aload 0, .iconst 0, .putfield 453, .aload 0, .iconst 0, .putfield 454, .aload 0, .iconst 0, .putfield 455, .aload 0, .iconst 0, .putfield 456, .aload 0, .iconst 0, .putfield 457, .aload 0, .iconst 0, .putfield 458, .aload 0, .iconst 0, .putfield 459, .aload 0, .iconst 0, .putfield 460, .aload 0, .iconst 0, .putfield 461, .aload 0, .iconst 0, .putfield 462, .aload 0, .iconst (-1), .putfield 463, .aload 0, .iload 1, .putfield 448, .return_])]
/-- DriverHost$Request.startAnew(III)V -/
def s_52 : List (Nat × List Instr) := [(0, [.aload 0, .iload 1, .putfield 449, .aload 0, .iload 2, .putfield 450, .aload 0, .iconst 0, .putfield 451, .aload 0, .iconst 0, .putfield 452, .aload 0, .iconst 0, .putfield 453, .aload 0, .iload 3, .putfield 454, .aload 0, .iconst 0, .putfield 455, .aload 0, .iconst 0, .putfield 456, .aload 0, .iconst 0, .putfield 457, .aload 0, .iconst 0, .putfield 458, .aload 0, .iconst 0, .putfield 459, .aload 0, .iconst 0, .putfield 460, .aload 0, .iconst 0, .putfield 461, .aload 0, .iconst 0, .putfield 462, .aload 0, .iconst (-1), .putfield 463, .return_])]
/-- DriverHost$Request.copyFrom(LDriverHost$Request;)V -/
def s_53 : List (Nat × List Instr) := [(0, [.aload 0, .aload 1, .getfield 449, .putfield 449, .aload 0, .aload 1, .getfield 450, .putfield 450, .aload 0, .aload 1, .getfield 451, .putfield 451, .aload 0, .aload 1, .getfield 452, .putfield 452, .aload 0, .aload 1, .getfield 453, .putfield 453, .aload 0, .aload 1, .getfield 454, .putfield 454, .aload 0, .aload 1, .getfield 455, .putfield 455, .aload 0, .aload 1, .getfield 456, .putfield 456, .aload 0, .aload 1, .getfield 457, .putfield 457, .aload 0, .aload 1, .getfield 458, .putfield 458, .aload 0, .aload 1, .getfield 459, .putfield 459, .aload 0, .aload 1, .getfield 460, .putfield 460, .aload 0, .aload 1, .getfield 461, .putfield 461, .aload 0, .aload 1, .getfield 462, .putfield 462, .aload 0, .aload 1, .getfield 463, .putfield 463, .return_])]
/-- DriverHost$Request.isOver()Z -/
def s_54 : List (Nat × List Instr) := [(0, [.aload 0, .getfield 455, .iconst 2, .if_icmp .eq 16, .aload 0, .getfield 455, .iconst 3, .if_icmp .ne 20]),
  (16, [.iconst 1, .goto 21]),
  (20, [.iconst 0]),
  (21, [.ret 0])]
/-- DriverHost$Request.deadline()I -/
def s_55 : List (Nat × List Instr) := [(0, [.aload 0, .getfield 453, .ifCond .ne 12, .iconst (2147483647), .goto 21]),
  (12, [.aload 0, .getfield 454, .aload 0, .getfield 453, .iadd]),
  (21, [.ireturn])]
/-- DriverHost$Request.takesCrash(I)Z -/
def s_56 : List (Nat × List Instr) := [(0, [.aload 0, .getfield 461, .iload 1, .if_icmp .ne 15, .aload 0, .getfield 462, .ifCond .gt 17]),
  (15, [.iconst 0, .ret 0]),
  (17, [.aload 0, .dup, .getfield 462, .iconst 1, .isub, .putfield 462, .iconst 1, .ret 0])]
/-- DriverHost$Request.end(II)V -/
def s_57 : List (Nat × List Instr) := [(0, [.aload 0, .iload 1, .putfield 455, .aload 0, .iconst 0, .putfield 460, .aload 0, .iload 2, .putfield 463, .return_])]
/-- DriverHost$Request.valueOf(I)I -/
def s_58 : List (Nat × List Instr) := [(0, [.iload 1, .tableswitch 151 0 14 #[76, 81, 86, 91, 96, 101, 106, 111, 116, 121, 126, 131, 136, 141, 146]]),
  (76, [.aload 0, .getfield 449, .ireturn]),
  (81, [.aload 0, .getfield 450, .ireturn]),
  (86, [.aload 0, .getfield 451, .ireturn]),
  (91, [.aload 0, .getfield 452, .ireturn]),
  (96, [.aload 0, .getfield 453, .ireturn]),
  (101, [.aload 0, .getfield 454, .ireturn]),
  (106, [.aload 0, .getfield 455, .ireturn]),
  (111, [.aload 0, .getfield 456, .ireturn]),
  (116, [.aload 0, .getfield 457, .ireturn]),
  (121, [.aload 0, .getfield 458, .ireturn]),
  (126, [.aload 0, .getfield 459, .ireturn]),
  (131, [.aload 0, .getfield 460, .ireturn]),
  (136, [.aload 0, .getfield 461, .ireturn]),
  (141, [.aload 0, .getfield 462, .ireturn]),
  (146, [.aload 0, .getfield 463, .ireturn]),
  (151, [.invokedynamic 0])]
/-- DriverHost$Request.propertyOf(II)I -/
def s_59 : List (Nat × List Instr) := [(0, [.iload 1, .tableswitch 112 0 10 #[60, 65, 70, 75, 77, 82, 87, 92, 97, 102, 107]]),
  (60, [.aload 0, .getfield 448, .ireturn]),
  (65, [.aload 0, .getfield 449, .ireturn]),
  (70, [.aload 0, .getfield 450, .ireturn]),
  (75, [.iload 2, .ireturn]),
  (77, [.aload 0, .getfield 451, .ireturn]),
  (82, [.aload 0, .getfield 452, .ireturn]),
  (87, [.aload 0, .getfield 455, .ireturn]),
  (92, [.aload 0, .getfield 456, .ireturn]),
  (97, [.aload 0, .getfield 457, .ireturn]),
  (102, [.aload 0, .getfield 458, .ireturn]),
  (107, [.aload 0, .getfield 459, .ireturn]),
  (112, [.iconst 0, .ireturn])]
/-- DriverHost$Tokens.<init>([BI)V -/
def s_60 : List (Nat × List Instr) := [(0, [.aload 0, .invokespecial 9000, .aload 0, .iconst 0, .putfield 519, .aload 0, .iconst 0, .putfield 520, .aload 0, .iconst 0, .putfield 521, .aload 0, .iconst (-1), .putfield 522, .aload 0, .aload 1, .putfield 512, .aload 0, .iconst 0, .iload 2, .aload 1, .ldc_w 101, .invokestatic 9001, .invokestatic 9002, .putfield 513, .aload 0, .aload 0, .getfield 513, .newarray .int, .putfield 514, .aload 0, .aload 0, .getfield 513, .newarray .int, .putfield 515, .aload 0, .aload 0, .getfield 513, .newarray .int, .putfield 516, .aload 0, .aload 0, .getfield 513, .newarray .int, .putfield 517, .aload 0, .aload 0, .getfield 513, .anewarray 9, .putfield 518, .return_])]
/-- DriverHost$Tokens.scan()V -/
def s_61 : List (Nat × List Instr) := [(0, [.iconst 0, .istore 1, .iconst 0, .istore 2]),
  (4, [.iload 2, .aload 0, .getfield 513, .if_icmp .ge 57, .iload 2, .iload 1, .if_icmp .lt 51, .aload 0, .getfield 512, .iload 2, .baload, .iconst 32, .if_icmp .eq 51, .aload 0, .getfield 512, .iload 2, .baload, .iconst 10, .if_icmp .eq 51, .aload 0, .iload 2, .invokevirtual 62, .istore 1, .aload 0, .iload 2, .iload 1, .invokevirtual 63]),
  (51, [.iinc 2 1, .goto 4]),
  (57, [.return_])]
/-- DriverHost$Tokens.endOf(I)I -/
def s_62 : List (Nat × List Instr) := [(0, [.iload 1, .iconst 1, .iadd, .istore 2, .aload 0, .getfield 512, .iload 1, .baload, .invokestatic 65, .ifCond .eq 42]),
  (16, [.iload 2, .aload 0, .getfield 513, .if_icmp .ge 80, .aload 0, .getfield 512, .iload 2, .baload, .invokestatic 65, .ifCond .eq 80, .iinc 2 1, .goto 16]),
  (42, [.aload 0, .getfield 512, .iload 1, .baload, .invokestatic 66, .ifCond .eq 80]),
  (54, [.iload 2, .aload 0, .getfield 513, .if_icmp .ge 80, .aload 0, .getfield 512, .iload 2, .baload, .invokestatic 66, .ifCond .eq 80, .iinc 2 1, .goto 54]),
  (80, [.iload 2, .ireturn])]
/-- DriverHost$Tokens.add(II)V -/
def s_63 : List (Nat × List Instr) := [(0, [.aload 0, .getfield 519, .aload 0, .getfield 513, .if_icmp .lt 12, .return_]),
  (12, [.aload 0, .getfield 515, .aload 0, .getfield 519, .iload 1, .iastore, .aload 0, .getfield 516, .aload 0, .getfield 519, .iload 2, .iastore, .aload 0, .getfield 512, .iload 1, .baload, .invokestatic 65, .ifCond .eq 75, .aload 0, .getfield 514, .aload 0, .getfield 519, .iconst 0, .iastore, .aload 0, .getfield 518, .aload 0, .getfield 519, .aload 0, .getfield 512, .iload 1, .iload 2, .invokestatic 9004, .aastore, .goto 140]),
  (75, [.aload 0, .getfield 512, .iload 1, .baload, .invokestatic 66, .ifCond .eq 115, .aload 0, .getfield 514, .aload 0, .getfield 519, .iconst 1, .iastore, .aload 0, .getfield 517, .aload 0, .getfield 519, .aload 0, .iload 1, .iload 2, .invokevirtual 64, .iastore, .goto 140]),
  (115, [.aload 0, .getfield 514, .aload 0, .getfield 519, .iconst 2, .iastore, .aload 0, .getfield 517, .aload 0, .getfield 519, .aload 0, .getfield 512, .iload 1, .baload, .iastore]),
  (140, [.aload 0, .dup, .getfield 519, .iconst 1, .iadd, .putfield 519, .return_])]
/-- DriverHost$Tokens.numberOf(II)I -/
def s_64 : List (Nat × List Instr) := [(0, [.iconst 0, .istore 3, .iload 1, .istore 4]),
  (5, [.iload 4, .iload 2, .if_icmp .ge 47, .iload 4, .aload 0, .getfield 513, .if_icmp .ge 47, .iload 3, .iconst 10, .imul, .aload 0, .getfield 512, .iload 4, .baload, .iadd, .iconst 48, .isub, .iconst (1000000), .invokestatic 9001, .istore 3, .iinc 4 1, .goto 5]),
  (47, [.iload 3, .ireturn])]
/-- DriverHost$Tokens.isLetter(B)Z -/
def s_65 : List (Nat × List Instr) := [(0, [.iload 0, .iconst 97, .if_icmp .lt 16, .iload 0, .iconst 122, .if_icmp .gt 16, .iconst 1, .goto 17]),
  (16, [.iconst 0]),
  (17, [.ret 0])]
/-- DriverHost$Tokens.isDigit(B)Z -/
def s_66 : List (Nat × List Instr) := [(0, [.iload 0, .iconst 48, .if_icmp .lt 16, .iload 0, .iconst 57, .if_icmp .gt 16, .iconst 1, .goto 17]),
  (16, [.iconst 0]),
  (17, [.ret 0])]
/-- DriverHost$Tokens.advance()V -/
def s_67 : List (Nat × List Instr) := [(0, [.aload 0, .getfield 520, .aload 0, .getfield 519, .if_icmp .ge 21, .aload 0, .dup, .getfield 520, .iconst 1, .iadd, .putfield 520]),
  (21, [.return_])]
/-- DriverHost$Tokens.atEnd()Z -/
def s_68 : List (Nat × List Instr) := [(0, [.aload 0, .getfield 520, .aload 0, .getfield 519, .if_icmp .lt 15, .iconst 1, .goto 16]),
  (15, [.iconst 0]),
  (16, [.ret 0])]
/-- DriverHost$Tokens.word()LDriverHost$Word; -/
def s_69 : List (Nat × List Instr) := [(0, [.aload 0, .getfield 520, .aload 0, .getfield 519, .if_icmp .ge 23, .aload 0, .getfield 518, .aload 0, .getfield 520, .checkcast 9, .goto 24]),
  (23, [.aconst_null]),
  (24, [.areturn])]
/-- DriverHost$Tokens.number()I -/
def s_70 : List (Nat × List Instr) := [(0, [.aload 0, .getfield 520, .aload 0, .getfield 519, .if_icmp .ge 23, .aload 0, .getfield 517, .aload 0, .getfield 520, .iaload, .goto 24]),
  (23, [.iconst 0]),
  (24, [.ireturn])]
/-- DriverHost$Tokens.isNumber()Z -/
def s_71 : List (Nat × List Instr) := [(0, [.aload 0, .getfield 520, .aload 0, .getfield 519, .if_icmp .ge 28, .aload 0, .getfield 514, .aload 0, .getfield 520, .iaload, .iconst 1, .if_icmp .ne 28, .iconst 1, .goto 29]),
  (28, [.iconst 0]),
  (29, [.ret 0])]
/-- DriverHost$Tokens.isSign(C)Z -/
def s_72 : List (Nat × List Instr) := [(0, [.aload 0, .getfield 520, .aload 0, .getfield 519, .if_icmp .ge 41, .aload 0, .getfield 514, .aload 0, .getfield 520, .iaload, .iconst 2, .if_icmp .ne 41, .aload 0, .getfield 517, .aload 0, .getfield 520, .iaload, .iload 1, .if_icmp .ne 41, .iconst 1, .goto 42]),
  (41, [.iconst 0]),
  (42, [.ret 0])]
/-- DriverHost$Tokens.isWord(LDriverHost$Word;)Z -/
def s_73 : List (Nat × List Instr) := [(0, [.aload 0, .getfield 520, .aload 0, .getfield 519, .if_icmp .ge 28, .aload 0, .getfield 518, .aload 0, .getfield 520, .checkcast 9, .aload 1, .if_acmp .ne 28, .iconst 1, .goto 29]),
  (28, [.iconst 0]),
  (29, [.ret 0])]
/-- DriverHost$Tokens.isName()Z -/
def s_74 : List (Nat × List Instr) := [(0, [.aload 0, .getfield 520, .aload 0, .getfield 519, .if_icmp .ge 39, .aload 0, .getfield 514, .aload 0, .getfield 520, .iaload, .ifCond .ne 39, .aload 0, .getfield 518, .aload 0, .getfield 520, .checkcast 9, .ifnonnull 39, .iconst 1, .goto 40]),
  (39, [.iconst 0]),
  (40, [.ret 0])]
/-- DriverHost$Tokens.refuse(I)V -/
def s_75 : List (Nat × List Instr) := [(0, [.aload 0, .getfield 521, .ifCond .ne 51, .aload 0, .iload 1, .putfield 521, .aload 0, .aload 0, .getfield 520, .aload 0, .getfield 519, .if_icmp .ge 36, .aload 0, .getfield 515, .aload 0, .getfield 520, .iaload, .goto 40]),
  (36, [.aload 0, .getfield 513]),
  (40, [.putfield 522, .aload 0, .aload 0, .getfield 519, .putfield 520]),
  (51, [.return_])]
/-- DriverHost$Tokens.areSame(II)Z -/
def s_76 : List (Nat × List Instr) := [(0, [.iload 1, .ifCond .lt 53, .iload 1, .aload 0, .getfield 519, .if_icmp .ge 53, .iload 2, .ifCond .lt 53, .iload 2, .aload 0, .getfield 519, .if_icmp .ge 53, .aload 0, .getfield 516, .iload 1, .iaload, .aload 0, .getfield 515, .iload 1, .iaload, .isub, .aload 0, .getfield 516, .iload 2, .iaload, .aload 0, .getfield 515, .iload 2, .iaload, .isub, .if_icmp .eq 55]),
  (53, [.iconst 0, .ret 0]),
  (55, [.iconst 0, .istore 3]),
  (57, [.iload 3, .aload 0, .getfield 516, .iload 1, .iaload, .aload 0, .getfield 515, .iload 1, .iaload, .isub, .if_icmp .ge 111, .aload 0, .getfield 512, .aload 0, .getfield 515, .iload 1, .iaload, .iload 3, .iadd, .baload, .aload 0, .getfield 512, .aload 0, .getfield 515, .iload 2, .iaload, .iload 3, .iadd, .baload, .if_icmp .eq 105, .iconst 0, .ret 0]),
  (105, [.iinc 3 1, .goto 57]),
  (111, [.iconst 1, .ret 0])]
/-- DriverHost$World.<init>(LDriverHost$Program;)V -/
def s_77 : List (Nat × List Instr) := [(0, [.aload 0, .invokespecial 9000, .aload 0, .iconst 0, .putfield 641, .aload 0, .iconst 0, .putfield 642, .aload 0, .iconst 4, .anewarray 2, .putfield 644, .aload 0, .iconst 100, .anewarray 7, .putfield 645, .aload 0, .new 4, .dup, .invokespecial 23, .putfield 646, .aload 0, .aload 1, .putfield 640, .aload 0, .aload 1, .getfield 323, .putfield 643, .iconst 0, .istore 2]),
  (57, [.iload 2, .aload 0, .getfield 644, .ldc_w 202, .if_icmp .ge 86, .aload 0, .getfield 644, .iload 2, .new 2, .dup, .iload 2, .invokespecial 6, .instanceof 2, .iinc 2 1, .goto 57]),
  (86, [.iconst 0, .istore 2]),
  (88, [.iload 2, .aload 0, .getfield 645, .ldc_w 207, .if_icmp .ge 117, .aload 0, .getfield 645, .iload 2, .new 7, .dup, .iload 2, .invokespecial 51, .instanceof 7, .iinc 2 1, .goto 88]),
  (117, [.return_])]
/-- DriverHost$World.copyFrom(LDriverHost$World;)V -/
def s_78 : List (Nat × List Instr) := [(0, [.aload 0, .aload 1, .getfield 640, .putfield 640, .aload 0, .aload 1, .getfield 641, .putfield 641, .aload 0, .aload 1, .getfield 642, .putfield 642, .aload 0, .aload 1, .getfield 643, .putfield 643, .iconst 0, .istore 2]),
  (34, [.iload 2, .aload 0, .getfield 644, .ldc_w 202, .if_icmp .ge 64, .aload 0, .getfield 644, .iload 2, .checkcast 2, .aload 1, .getfield 644, .iload 2, .checkcast 2, .invokevirtual 7, .iinc 2 1, .goto 34]),
  (64, [.iconst 0, .istore 2]),
  (66, [.iload 2, .aload 0, .getfield 642, .if_icmp .ge 104, .iload 2, .aload 0, .getfield 645, .ldc_w 207, .if_icmp .ge 104, .aload 0, .getfield 645, .iload 2, .checkcast 7, .aload 1, .getfield 645, .iload 2, .checkcast 7, .invokevirtual 53, .iinc 2 1, .goto 66]),
  (104, [.aload 0, .getfield 646, .aload 1, .getfield 646, .invokevirtual 24, .return_])]
/-- DriverHost$World.driverAt(I)LDriverHost$Driver; -/
def s_79 : List (Nat × List Instr) := [(0, [.iload 1, .ifCond .lt 24, .iload 1, .aload 0, .getfield 640, .getfield 320, .if_icmp .ge 24, .iload 1, .aload 0, .getfield 644, .ldc_w 202, .if_icmp .lt 34]),
  (24, [.invokedynamic 0]),
  (34, [.aload 0, .getfield 644, .iload 1, .checkcast 2, .areturn])]
/-- DriverHost$World.requestAt(I)LDriverHost$Request; -/
def s_80 : List (Nat × List Instr) := [(0, [.iload 1, .ifCond .lt 21, .iload 1, .aload 0, .getfield 642, .if_icmp .ge 21, .iload 1, .aload 0, .getfield 645, .ldc_w 207, .if_icmp .lt 31]),
  (21, [.invokedynamic 0]),
  (31, [.aload 0, .getfield 645, .iload 1, .checkcast 7, .areturn])]
/-- DriverHost$World.completions()I -/
def s_81 : List (Nat × List Instr) := [(0, [.aload 0, .getfield 646, .iconst 2, .invokevirtual 27, .ireturn])]
/-- DriverHost$World.addRequest(II)LDriverHost$Request; -/
def s_82 : List (Nat × List Instr) := [(0, [.aload 0, .getfield 642, .aload 0, .getfield 645, .ldc_w 207, .if_icmp .ge 22, .aload 0, .dup, .getfield 642, .iconst 1, .iadd, .putfield 642]),
  (22, [.aload 0, .aload 0, .getfield 642, .iconst 1, .isub, .invokevirtual 80, .astore 3, .aload 3, .iload 1, .iload 2, .aload 0, .getfield 641, .invokevirtual 52, .aload 3, .areturn])]
/-- DriverHost$World.pass(I)V -/
def s_83 : List (Nat × List Instr) := [(0, [.iconst 0, .istore 2]),
  (2, [.iload 2, .iload 1, .if_icmp .ge 61, .iconst 0, .istore 3]),
  (9, [.iload 3, .aload 0, .getfield 640, .getfield 320, .if_icmp .ge 45, .iload 3, .aload 0, .getfield 644, .ldc_w 202, .if_icmp .ge 45, .aload 0, .aload 0, .getfield 644, .iload 3, .checkcast 2, .invokevirtual 84, .iinc 3 1, .goto 9]),
  (45, [.aload 0, .dup, .getfield 641, .iconst 1, .iadd, .putfield 641, .iinc 2 1, .goto 2]),
  (61, [.return_])]
/-- DriverHost$World.step(LDriverHost$Driver;)V -/
def s_84 : List (Nat × List Instr) := [(0, [.aload 1, .getfield 129, .iconst 1, .if_icmp .ne 24, .aload 0, .getfield 641, .aload 1, .getfield 130, .if_icmp .lt 24, .aload 0, .aload 1, .invokevirtual 85]),
  (24, [.aload 1, .getfield 129, .iconst 2, .if_icmp .eq 48, .aload 0, .getfield 641, .aload 1, .getfield 140, .if_icmp .lt 48, .aload 0, .aload 1, .invokevirtual 87]),
  (48, [.aload 1, .getfield 129, .ifCond .ne 68, .aload 1, .getfield 137, .iconst (-1), .if_icmp .ne 68, .aload 0, .aload 1, .invokevirtual 88]),
  (68, [.aload 1, .getfield 129, .ifCond .ne 96, .aload 1, .getfield 137, .iconst (-1), .if_icmp .eq 96, .aload 0, .aload 1, .aload 0, .aload 1, .getfield 137, .invokevirtual 80, .invokevirtual 90]),
  (96, [.aload 1, .getfield 129, .ifCond .ne 139, .aload 1, .dup, .getfield 141, .iconst 1, .iadd, .putfield 141, .aload 0, .getfield 641, .iconst 1, .iadd, .aload 1, .getfield 131, .isub, .aload 0, .getfield 640, .getfield 325, .if_icmp .lt 139, .aload 1, .iconst 0, .putfield 132]),
  (139, [.return_])]
/-- DriverHost$World.restart(LDriverHost$Driver;)V -/
def s_85 : List (Nat × List Instr) := [(0, [.aload 1, .iconst 0, .putfield 129, .aload 1, .aload 0, .getfield 641, .putfield 131, .aload 0, .getfield 646, .aload 0, .getfield 641, .iconst 5, .aload 1, .getfield 128, .iconst (-1), .invokevirtual 25, .aload 1, .invokevirtual 18, .iconst 0, .istore 2]),
  (36, [.iload 2, .aload 1, .getfield 136, .if_icmp .ge 64, .aload 0, .aload 1, .aload 0, .aload 1, .iload 2, .invokevirtual 11, .invokevirtual 80, .invokevirtual 93, .iinc 2 1, .goto 36]),
  (64, [.aload 1, .getfield 137, .iconst (-1), .if_icmp .ne 73, .return_]),
  (73, [.aload 0, .aload 1, .getfield 137, .invokevirtual 80, .astore 2, .aload 0, .aload 2, .invokevirtual 86, .istore 3, .iload 3, .iconst 2, .if_icmp .ne 102, .aload 0, .aload 2, .iconst 2, .invokevirtual 100, .goto 143]),
  (102, [.iload 3, .iconst 1, .if_icmp .ne 122, .aload 0, .aload 1, .aload 2, .aload 0, .aload 1, .aload 2, .invokevirtual 92, .invokevirtual 94, .goto 143]),
  (122, [.aload 1, .iconst (-1), .putfield 137, .aload 1, .aload 2, .getfield 448, .putfield 138, .aload 0, .aload 1, .aload 2, .iconst 7, .invokevirtual 101]),
  (143, [.return_])]
/-- DriverHost$World.decide(LDriverHost$Request;)I -/
def s_86 : List (Nat × List Instr) := [(0, [.aload 0, .getfield 640, .aload 1, .getfield 450, .invokevirtual 29, .astore 2, .aload 2, .getfield 65, .iconst 2, .if_icmp .ne 22, .iconst 2, .ireturn]),
  (22, [.aload 2, .getfield 65, .iconst 3, .if_icmp .eq 32, .iconst 0, .ireturn]),
  (32, [.aload 0, .aload 1, .getfield 449, .invokevirtual 79, .astore 3, .aload 3, .aload 1, .getfield 451, .iconst 0, .invokevirtual 13, .aload 0, .getfield 640, .getfield 330, .aload 2, .getfield 67, .aload 2, .getfield 68, .aload 3, .getfield 133, .invokevirtual 2, .ifCond .eq 79, .iconst 1, .goto 80]),
  (79, [.iconst 0]),
  (80, [.istore 4, .iload 4, .ifCond .eq 91, .iconst 1, .goto 92]),
  (91, [.iconst 0]),
  (92, [.ireturn])]
/-- DriverHost$World.failLate(LDriverHost$Driver;)V -/
def s_87 : List (Nat × List Instr) := [(0, [.iconst (2147483647), .istore 2, .iconst 0, .istore 3]),
  (5, [.iload 3, .aload 0, .getfield 642, .if_icmp .ge 78, .aload 0, .iload 3, .invokevirtual 80, .astore 4, .aload 4, .getfield 449, .aload 1, .getfield 128, .if_icmp .ne 72, .aload 4, .getfield 455, .ifCond .ne 72, .aload 4, .invokevirtual 55, .aload 0, .getfield 641, .if_icmp .gt 62, .aload 0, .aload 4, .iconst 1, .invokevirtual 100, .goto 72]),
  (62, [.iload 2, .aload 4, .invokevirtual 55, .invokestatic 9001, .istore 2]),
  (72, [.iinc 3 1, .goto 5]),
  (78, [.aload 1, .iload 2, .putfield 140, .return_])]
/-- DriverHost$World.begin(LDriverHost$Driver;)V -/
def s_88 : List (Nat × List Instr) := [(0, [.aload 0, .aload 1, .invokevirtual 89, .istore 2, .iload 2, .iconst (-1), .if_icmp .ne 12, .return_]),
  (12, [.aload 0, .iload 2, .invokevirtual 80, .astore 3, .aload 0, .aload 1, .aload 3, .invokevirtual 102, .aload 1, .iload 2, .putfield 137, .aload 3, .iconst 1, .putfield 455, .aload 3, .aload 0, .getfield 640, .aload 3, .getfield 450, .invokevirtual 29, .getfield 66, .putfield 460, .aload 0, .getfield 646, .aload 0, .getfield 641, .iconst 1, .aload 1, .getfield 128, .iload 2, .invokevirtual 25, .return_])]
/-- DriverHost$World.nextOf(LDriverHost$Driver;)I -/
def s_89 : List (Nat × List Instr) := [(0, [.aload 1, .getfield 138, .iconst (-1), .if_icmp .ne 15, .aload 1, .getfield 139, .ifCond .ne 20]),
  (15, [.aload 1, .getfield 138, .ireturn]),
  (20, [.iconst (-1), .istore 2, .iconst (-1), .istore 3, .iconst 0, .istore 4]),
  (27, [.iload 4, .aload 0, .getfield 642, .if_icmp .ge 88, .aload 0, .iload 4, .invokevirtual 80, .astore 5, .aload 5, .getfield 449, .aload 1, .getfield 128, .if_icmp .ne 82, .aload 5, .getfield 455, .ifCond .ne 82, .aload 5, .getfield 452, .iload 3, .if_icmp .le 82, .iload 4, .istore 2, .aload 5, .getfield 452, .istore 3]),
  (82, [.iinc 4 1, .goto 27]),
  (88, [.iload 2, .ireturn])]
/-- DriverHost$World.work(LDriverHost$Driver;LDriverHost$Request;)V -/
def s_90 : List (Nat × List Instr) := [(0, [.aload 2, .dup, .getfield 460, .iconst 1, .isub, .putfield 460, .aload 2, .getfield 460, .ifCond .le 18, .return_]),
  (18, [.aload 2, .iconst 1, .invokevirtual 56, .ifCond .eq 32, .aload 0, .aload 1, .invokevirtual 96, .return_]),
  (32, [.aload 0, .aload 1, .aload 2, .invokevirtual 91, .istore 3, .aload 2, .iconst 2, .invokevirtual 56, .ifCond .eq 55, .aload 0, .aload 1, .invokevirtual 96, .goto 62]),
  (55, [.aload 0, .aload 1, .aload 2, .iload 3, .invokevirtual 94]),
  (62, [.return_])]
/-- DriverHost$World.doEffect(LDriverHost$Driver;LDriverHost$Request;)I -/
def s_91 : List (Nat × List Instr) := [(0, [.aload 0, .getfield 640, .aload 2, .getfield 450, .invokevirtual 29, .astore 3, .aload 0, .aload 1, .aload 2, .invokevirtual 92, .istore 4, .aload 1, .aload 2, .getfield 451, .iload 4, .invokevirtual 13, .aload 0, .getfield 640, .getfield 330, .aload 3, .getfield 69, .aload 3, .getfield 70, .aload 1, .getfield 133, .invokevirtual 2, .pop, .aload 2, .dup, .getfield 458, .iconst 1, .iadd, .putfield 458, .iload 4, .ireturn])]
/-- DriverHost$World.resultNow(LDriverHost$Driver;LDriverHost$Request;)I -/
def s_92 : List (Nat × List Instr) := [(0, [.aload 0, .getfield 640, .aload 2, .getfield 450, .invokevirtual 29, .astore 3, .aload 1, .aload 2, .getfield 451, .iconst 0, .invokevirtual 13, .aload 0, .getfield 640, .getfield 330, .aload 3, .getfield 68, .aload 3, .getfield 69, .aload 1, .getfield 133, .invokevirtual 2, .ireturn])]
/-- DriverHost$World.doKeepings(LDriverHost$Driver;LDriverHost$Request;)V -/
def s_93 : List (Nat × List Instr) := [(0, [.aload 0, .getfield 640, .aload 2, .getfield 450, .invokevirtual 29, .astore 3, .aload 1, .aload 2, .getfield 451, .aload 2, .getfield 457, .invokevirtual 13, .aload 0, .getfield 640, .getfield 330, .aload 3, .getfield 70, .aload 3, .getfield 71, .aload 1, .getfield 133, .invokevirtual 2, .pop, .return_])]
/-- DriverHost$World.complete(LDriverHost$Driver;LDriverHost$Request;I)V -/
def s_94 : List (Nat × List Instr) := [(0, [.aload 1, .iconst (-1), .putfield 137, .aload 2, .iconst 2, .aload 0, .getfield 641, .invokevirtual 57, .aload 2, .iload 3, .putfield 457, .aload 1, .dup, .getfield 142, .iconst 1, .iadd, .putfield 142, .aload 1, .dup, .getfield 143, .aload 0, .getfield 641, .aload 2, .getfield 454, .isub, .iadd, .putfield 143, .aload 0, .aload 1, .aload 2, .invokevirtual 93, .aload 1, .aload 2, .getfield 448, .invokevirtual 14, .aload 0, .getfield 646, .aload 0, .getfield 641, .iconst 2, .aload 1, .getfield 128, .aload 2, .getfield 448, .invokevirtual 25, .aload 1, .getfield 136, .aload 0, .getfield 640, .getfield 328, .if_icmp .lt 100, .aload 0, .aload 1, .invokevirtual 95]),
  (100, [.return_])]
/-- DriverHost$World.snapshot(LDriverHost$Driver;)V -/
def s_95 : List (Nat × List Instr) := [(0, [.aload 1, .invokevirtual 17, .aload 1, .iconst 0, .putfield 136, .aload 0, .getfield 646, .aload 0, .getfield 641, .iconst 6, .aload 1, .getfield 128, .iconst (-1), .invokevirtual 25, .return_])]
/-- DriverHost$World.crash(LDriverHost$Driver;)V -/
def s_96 : List (Nat × List Instr) := [(0, [.aload 1, .dup, .getfield 132, .iconst 1, .iadd, .putfield 132, .aload 0, .getfield 646, .aload 0, .getfield 641, .iconst 4, .aload 1, .getfield 128, .iconst (-1), .invokevirtual 25, .aload 1, .getfield 137, .iconst (-1), .if_icmp .eq 47, .aload 0, .aload 0, .aload 1, .getfield 137, .invokevirtual 80, .invokevirtual 97]),
  (47, [.aload 1, .getfield 132, .aload 0, .getfield 640, .getfield 326, .if_icmp .le 69, .aload 0, .aload 1, .invokevirtual 98, .goto 88]),
  (69, [.aload 1, .aload 0, .getfield 641, .iconst 1, .iadd, .aload 0, .aload 1, .getfield 132, .invokevirtual 99, .iadd, .invokevirtual 15]),
  (88, [.return_])]
/-- DriverHost$World.strike(LDriverHost$Request;)V -/
def s_97 : List (Nat × List Instr) := [(0, [.aload 1, .dup, .getfield 459, .iconst 1, .iadd, .putfield 459, .aload 1, .iconst 0, .putfield 460, .aload 1, .getfield 459, .aload 0, .getfield 640, .getfield 327, .if_icmp .lt 35, .aload 0, .aload 1, .iconst 3, .invokevirtual 100]),
  (35, [.return_])]
/-- DriverHost$World.die(LDriverHost$Driver;)V -/
def s_98 : List (Nat × List Instr) := [(0, [.aload 1, .iconst 2, .putfield 129, .aload 1, .invokevirtual 16, .aload 0, .getfield 646, .aload 0, .getfield 641, .iconst 8, .aload 1, .getfield 128, .iconst (-1), .invokevirtual 25, .iconst 0, .istore 2]),
  (29, [.iload 2, .aload 0, .getfield 642, .if_icmp .ge 73, .aload 0, .iload 2, .invokevirtual 80, .astore 3, .aload 3, .getfield 449, .aload 1, .getfield 128, .if_icmp .ne 67, .aload 3, .invokevirtual 54, .ifCond .ne 67, .aload 0, .aload 3, .iconst 5, .invokevirtual 100]),
  (67, [.iinc 2 1, .goto 29]),
  (73, [.return_])]
/-- DriverHost$World.delayFor(I)I -/
def s_99 : List (Nat × List Instr) := [(0, [.aload 0, .getfield 643, .istore 2, .iconst 1, .istore 3]),
  (7, [.iload 3, .iload 1, .if_icmp .ge 43, .iload 2, .aload 0, .getfield 640, .getfield 324, .if_icmp .ge 43, .iload 2, .iconst 2, .imul, .aload 0, .getfield 640, .getfield 324, .invokestatic 9001, .istore 2, .iinc 3 1, .goto 7]),
  (43, [.iload 2, .ireturn])]
/-- DriverHost$World.fail(LDriverHost$Request;I)V -/
def s_100 : List (Nat × List Instr) := [(0, [.aload 0, .aload 1, .getfield 449, .invokevirtual 79, .astore 3, .aload 1, .getfield 455, .ifCond .ne 25, .aload 0, .aload 3, .aload 1, .invokevirtual 102, .goto 30]),
  (25, [.aload 3, .iconst (-1), .putfield 137]),
  (30, [.aload 1, .iconst 3, .aload 0, .getfield 641, .invokevirtual 57, .aload 1, .iload 2, .putfield 456, .aload 0, .getfield 646, .aload 0, .getfield 641, .iconst 3, .aload 3, .getfield 128, .aload 1, .getfield 448, .invokevirtual 25, .return_])]
/-- DriverHost$World.enqueue(LDriverHost$Driver;LDriverHost$Request;I)V -/
def s_101 : List (Nat × List Instr) := [(0, [.aload 2, .iconst 0, .putfield 455, .aload 1, .dup, .getfield 139, .iconst 1, .iadd, .putfield 139, .aload 1, .aload 1, .getfield 140, .aload 2, .invokevirtual 55, .invokestatic 9001, .putfield 140, .aload 0, .getfield 646, .aload 0, .getfield 641, .iload 3, .aload 1, .getfield 128, .aload 2, .getfield 448, .invokevirtual 25, .return_])]
/-- DriverHost$World.leaveQueue(LDriverHost$Driver;LDriverHost$Request;)V -/
def s_102 : List (Nat × List Instr) := [(0, [.aload 1, .dup, .getfield 139, .iconst 1, .isub, .putfield 139, .aload 1, .getfield 138, .aload 2, .getfield 448, .if_icmp .ne 26, .aload 1, .iconst (-1), .putfield 138]),
  (26, [.return_])]
/-- DriverHost$World.matches(ILDriverHost$Code;[I)Z -/
def s_103 : List (Nat × List Instr) := [(0, [.aload 0, .iload 1, .invokevirtual 80, .astore 4, .aload 0, .getfield 640, .aload 4, .getfield 450, .invokevirtual 29, .getfield 65, .istore 5, .iconst 0, .istore 6]),
  (27, [.iload 6, .aload 3, .ldc_w 100, .if_icmp .ge 53, .aload 3, .iload 6, .aload 4, .iload 6, .iload 5, .invokevirtual 59, .iastore, .iinc 6 1, .goto 27]),
  (53, [.aload 2, .iconst 0, .aload 2, .getfield 2, .aload 3, .invokevirtual 2, .ifCond .eq 70, .iconst 1, .goto 71]),
  (70, [.iconst 0]),
  (71, [.ret 0])]
/-- DriverHost.<init>()V -/
def s_104 : List (Nat × List Instr) := [(0, [.aload 0, .invokespecial 9000, .aload 0, .iconst 900, .newarray .byte, .putfield 704, .aload 0, .iconst 0, .putfield 705, .aload 0, .iconst (-1), .putfield 706, .aload 0, .new 10, .dup, .new 5, .dup, .iconst 0, .invokespecial 28, .invokespecial 77, .putfield 707, .aload 0, .new 3, .dup, .invokespecial 19, .putfield 708, .aload 0, .aconst_null, .putfield 709, .aload 0, .iconst 0, .putfield 710, .aload 0, .aconst_null, .putfield 711, .return_])]
/-- DriverHost.feed(IIIII)I -/
def s_105 : List (Nat × List Instr) := [(0, [.aload 0, .getfield 705, .iconst 20, .iadd, .iconst 900, .if_icmp .le 15, .iconst (-1), .ireturn]),
  (15, [.aload 0, .iload 1, .invokevirtual 106, .aload 0, .iload 2, .invokevirtual 106, .aload 0, .iload 3, .invokevirtual 106, .aload 0, .iload 4, .invokevirtual 106, .aload 0, .iload 5, .invokevirtual 106, .aload 0, .getfield 705, .ireturn])]
/-- DriverHost.append(I)V -/
def s_106 : List (Nat × List Instr) := [(0, [.iconst 24, .istore 2]),
  (3, [.iload 2, .ifCond .lt 48, .aload 0, .getfield 705, .aload 0, .getfield 704, .ldc_w 101, .if_icmp .ge 42, .aload 0, .getfield 704, .aload 0, .getfield 705, .iload 1, .iload 2, .ishr, .i2b, .bastore, .aload 0, .dup, .getfield 705, .iconst 1, .iadd, .putfield 705]),
  (42, [.iinc 2 (-8), .goto 3]),
  (48, [.return_])]
/-- DriverHost.load(I)I -/
def s_107 : List (Nat × List Instr) := [(0, [.iload 1, .ifCond .lt 12, .iload 1, .aload 0, .getfield 705, .if_icmp .le 22]),
  (12, [.invokedynamic 1]),
  (22, [.new 6, .dup, .aload 0, .getfield 704, .iload 1, .iconst 0, .invokespecial 31, .astore 2, .aload 2, .invokevirtual 32, .aload 0, .iconst 0, .putfield 705, .aload 0, .aload 2, .getfield 384, .getfield 522, .putfield 706, .aload 2, .getfield 384, .getfield 521, .ifCond .eq 77, .iconst (-10), .aload 2, .getfield 384, .getfield 521, .isub, .ireturn]),
  (77, [.aload 0, .new 10, .dup, .aload 2, .getfield 386, .invokespecial 77, .putfield 707, .aload 0, .getfield 708, .invokevirtual 20, .aload 0, .iconst 0, .putfield 710, .aload 2, .getfield 386, .getfield 321, .ireturn])]
/-- DriverHost.errorPosition()I -/
def s_108 : List (Nat × List Instr) := [(0, [.aload 0, .getfield 706, .ireturn])]
/-- DriverHost.driverCount()I -/
def s_109 : List (Nat × List Instr) := [(0, [.aload 0, .getfield 707, .getfield 640, .getfield 320, .ireturn])]
/-- DriverHost.commandCount()I -/
def s_110 : List (Nat × List Instr) := [(0, [.aload 0, .getfield 707, .getfield 640, .getfield 321, .ireturn])]
/-- DriverHost.requestCount()I -/
def s_111 : List (Nat × List Instr) := [(0, [.aload 0, .getfield 707, .getfield 642, .ireturn])]
/-- DriverHost.clock()I -/
def s_112 : List (Nat × List Instr) := [(0, [.aload 0, .getfield 707, .getfield 641, .ireturn])]
/-- DriverHost.classOf(I)I -/
def s_113 : List (Nat × List Instr) := [(0, [.aload 0, .getfield 707, .getfield 640, .iload 1, .invokevirtual 29, .getfield 65, .ireturn])]
/-- DriverHost.timeOf(I)I -/
def s_114 : List (Nat × List Instr) := [(0, [.aload 0, .getfield 707, .getfield 640, .iload 1, .invokevirtual 29, .getfield 66, .ireturn])]
/-- DriverHost.submit(IIIII)I -/
def s_115 : List (Nat × List Instr) := [(0, [.aload 0, .getfield 707, .iload 1, .invokevirtual 79, .astore 6, .aload 0, .getfield 707, .getfield 640, .iload 2, .invokevirtual 29, .pop, .iload 4, .iconst 0, .iconst 3, .invokestatic 151, .ifCond .eq 43, .iload 5, .iconst 0, .iconst (100000), .invokestatic 151, .ifCond .ne 53]),
  (43, [.invokedynamic 1]),
  (53, [.aload 6, .getfield 129, .iconst 2, .if_icmp .ne 65, .iconst (-2), .ireturn]),
  (65, [.aload 0, .getfield 707, .getfield 642, .iconst 100, .if_icmp .lt 80, .iconst (-3), .ireturn]),
  (80, [.aload 0, .getfield 708, .aload 0, .getfield 707, .invokevirtual 21, .aload 0, .getfield 707, .iload 1, .iload 2, .invokevirtual 82, .astore 7, .aload 7, .iload 3, .putfield 451, .aload 7, .iload 4, .putfield 452, .aload 7, .iload 5, .putfield 453, .aload 0, .getfield 707, .aload 6, .aload 7, .iconst 0, .invokevirtual 101, .aload 7, .getfield 448, .ireturn])]
/-- DriverHost.cancel(I)I -/
def s_116 : List (Nat × List Instr) := [(0, [.aload 0, .getfield 707, .iload 1, .invokevirtual 80, .astore 2, .aload 2, .getfield 455, .ifCond .eq 19, .iconst (-2), .ireturn]),
  (19, [.aload 0, .getfield 708, .aload 0, .getfield 707, .invokevirtual 21, .aload 0, .getfield 707, .aload 2, .iconst 4, .invokevirtual 100, .aload 0, .getfield 707, .getfield 641, .ireturn])]
/-- DriverHost.plan(III)I -/
def s_117 : List (Nat × List Instr) := [(0, [.aload 0, .getfield 707, .iload 1, .invokevirtual 80, .astore 4, .iload 2, .iconst 0, .iconst 2, .invokestatic 151, .ifCond .eq 29, .iload 3, .iconst 0, .iconst 20, .invokestatic 151, .ifCond .ne 39]),
  (29, [.invokedynamic 1]),
  (39, [.aload 4, .invokevirtual 54, .ifCond .eq 50, .iconst (-2), .ireturn]),
  (50, [.aload 0, .getfield 708, .aload 0, .getfield 707, .invokevirtual 21, .aload 4, .getfield 461, .istore 5, .aload 4, .iload 2, .putfield 461, .aload 4, .iload 3, .putfield 462, .iload 5, .ireturn])]
/-- DriverHost.kill(I)I -/
def s_118 : List (Nat × List Instr) := [(0, [.aload 0, .getfield 707, .iload 1, .invokevirtual 79, .astore 2, .aload 2, .getfield 129, .ifCond .eq 19, .iconst (-2), .ireturn]),
  (19, [.aload 0, .getfield 708, .aload 0, .getfield 707, .invokevirtual 21, .aload 0, .getfield 707, .aload 2, .invokevirtual 96, .aload 2, .getfield 129, .ireturn])]
/-- DriverHost.replace(I)I -/
def s_119 : List (Nat × List Instr) := [(0, [.aload 0, .getfield 707, .iload 1, .invokevirtual 79, .astore 2, .aload 2, .getfield 129, .ifCond .eq 19, .iconst (-2), .ireturn]),
  (19, [.aload 2, .getfield 137, .iconst (-1), .if_icmp .eq 30, .iconst (-3), .ireturn]),
  (30, [.aload 0, .getfield 708, .aload 0, .getfield 707, .invokevirtual 21, .aload 0, .getfield 707, .aload 2, .invokevirtual 95, .aload 2, .aload 0, .getfield 707, .getfield 641, .aload 0, .getfield 707, .getfield 640, .getfield 329, .iadd, .invokevirtual 15, .aload 2, .getfield 130, .ireturn])]
/-- DriverHost.takeSnapshot(I)I -/
def s_120 : List (Nat × List Instr) := [(0, [.aload 0, .getfield 707, .iload 1, .invokevirtual 79, .astore 2, .aload 2, .getfield 129, .ifCond .eq 19, .iconst (-2), .ireturn]),
  (19, [.aload 0, .getfield 708, .aload 0, .getfield 707, .invokevirtual 21, .aload 2, .getfield 136, .istore 3, .aload 0, .getfield 707, .aload 2, .invokevirtual 95, .iload 3, .ireturn])]
/-- DriverHost.poke(III)I -/
def s_121 : List (Nat × List Instr) := [(0, [.aload 0, .getfield 707, .iload 1, .invokevirtual 79, .astore 4, .aload 4, .iload 2, .invokevirtual 8, .istore 5, .iload 3, .iconst 0, .iconst (65535), .invokestatic 151, .ifCond .ne 38, .invokedynamic 1]),
  (38, [.aload 0, .getfield 708, .aload 0, .getfield 707, .invokevirtual 21, .aload 4, .iload 2, .iload 3, .invokevirtual 12, .iload 5, .ireturn])]
/-- DriverHost.run(I)I -/
def s_122 : List (Nat × List Instr) := [(0, [.iload 1, .iconst 0, .iconst 1000, .invokestatic 151, .ifCond .ne 21, .invokedynamic 1]),
  (21, [.aload 0, .getfield 707, .getfield 641, .iload 1, .iadd, .iconst (1000000), .if_icmp .le 38, .iconst (-4), .ireturn]),
  (38, [.aload 0, .getfield 708, .aload 0, .getfield 707, .invokevirtual 21, .aload 0, .getfield 707, .invokevirtual 81, .istore 2, .aload 0, .getfield 707, .iload 1, .invokevirtual 83, .aload 0, .getfield 707, .invokevirtual 81, .iload 2, .isub, .ireturn])]
/-- DriverHost.driverState(I)I -/
def s_123 : List (Nat × List Instr) := [(0, [.aload 0, .getfield 707, .iload 1, .invokevirtual 79, .getfield 129, .ireturn])]
/-- DriverHost.downUntil(I)I -/
def s_124 : List (Nat × List Instr) := [(0, [.aload 0, .getfield 707, .iload 1, .invokevirtual 79, .astore 2, .aload 2, .getfield 129, .iconst 1, .if_icmp .ne 24, .aload 2, .getfield 130, .goto 25]),
  (24, [.iconst (-1)]),
  (25, [.ireturn])]
/-- DriverHost.streak(I)I -/
def s_125 : List (Nat × List Instr) := [(0, [.aload 0, .getfield 707, .iload 1, .invokevirtual 79, .getfield 132, .ireturn])]
/-- DriverHost.register(II)I -/
def s_126 : List (Nat × List Instr) := [(0, [.aload 0, .getfield 707, .iload 1, .invokevirtual 79, .iload 2, .invokevirtual 8, .ireturn])]
/-- DriverHost.variable(II)I -/
def s_127 : List (Nat × List Instr) := [(0, [.aload 0, .getfield 707, .iload 1, .invokevirtual 79, .iload 2, .invokevirtual 9, .ireturn])]
/-- DriverHost.saved(II)I -/
def s_128 : List (Nat × List Instr) := [(0, [.aload 0, .getfield 707, .iload 1, .invokevirtual 79, .iload 2, .invokevirtual 10, .ireturn])]
/-- DriverHost.logSize(I)I -/
def s_129 : List (Nat × List Instr) := [(0, [.aload 0, .getfield 707, .iload 1, .invokevirtual 79, .getfield 136, .ireturn])]
/-- DriverHost.logged(II)I -/
def s_130 : List (Nat × List Instr) := [(0, [.aload 0, .getfield 707, .iload 1, .invokevirtual 79, .astore 3, .iload 2, .ifCond .ge 23, .invokedynamic 0]),
  (23, [.aload 3, .iload 2, .invokevirtual 11, .ireturn])]
/-- DriverHost.inFlight(I)I -/
def s_131 : List (Nat × List Instr) := [(0, [.aload 0, .getfield 707, .iload 1, .invokevirtual 79, .getfield 137, .ireturn])]
/-- DriverHost.nextRequest(I)I -/
def s_132 : List (Nat × List Instr) := [(0, [.aload 0, .getfield 707, .aload 0, .getfield 707, .iload 1, .invokevirtual 79, .invokevirtual 89, .ireturn])]
/-- DriverHost.queued(I)I -/
def s_133 : List (Nat × List Instr) := [(0, [.aload 0, .getfield 707, .iload 1, .invokevirtual 79, .getfield 139, .ireturn])]
/-- DriverHost.request(II)I -/
def s_134 : List (Nat × List Instr) := [(0, [.aload 0, .getfield 707, .iload 1, .invokevirtual 80, .iload 2, .invokevirtual 58, .ireturn])]
/-- DriverHost.recordCount()I -/
def s_135 : List (Nat × List Instr) := [(0, [.aload 0, .getfield 707, .getfield 646, .getfield 262, .ireturn])]
/-- DriverHost.record(II)I -/
def s_136 : List (Nat × List Instr) := [(0, [.aload 0, .getfield 707, .getfield 646, .iload 1, .iload 2, .invokevirtual 26, .ireturn])]
/-- DriverHost.total(I)I -/
def s_137 : List (Nat × List Instr) := [(0, [.aload 0, .getfield 707, .getfield 646, .iload 1, .invokevirtual 27, .ireturn])]
/-- DriverHost.availability(I)D -/
def s_138 : List (Nat × List Instr) := [(0, [.aload 0, .getfield 707, .iload 1, .invokevirtual 79, .astore 2, .aload 0, .getfield 707, .getfield 641, .ifCond .ne 23, .dconst 1, .goto 37]),
  (23, [.aload 2, .getfield 141, .i2d, .aload 0, .getfield 707, .getfield 641, .i2d, .ddiv]),
  (37, [.dreturn])]
/-- DriverHost.meanTime(I)F -/
def s_139 : List (Nat × List Instr) := [(0, [.aload 0, .getfield 707, .iload 1, .invokevirtual 79, .astore 2, .aload 2, .getfield 142, .ifCond .ne 18, .fconst 0, .freturn]),
  (18, [.aload 2, .getfield 143, .i2d, .aload 2, .getfield 142, .i2d, .ddiv, .d2f, .freturn])]
/-- DriverHost.forecast(I)I -/
def s_140 : List (Nat × List Instr) := [(0, [.aload 0, .getfield 707, .iload 1, .invokevirtual 80, .invokevirtual 54, .ifCond .eq 16, .iconst 0, .ireturn]),
  (16, [.aload 0, .invokevirtual 142, .astore 2, .aload 2, .iload 1, .invokevirtual 80, .astore 3, .iconst 1, .istore 4]),
  (30, [.iload 4, .iconst 1000, .if_icmp .gt 68, .aload 2, .getfield 641, .iconst (1000000), .if_icmp .ge 68, .aload 2, .iconst 1, .invokevirtual 83, .aload 3, .invokevirtual 54, .ifCond .eq 62, .iload 4, .ireturn]),
  (62, [.iinc 4 1, .goto 30]),
  (68, [.iconst (-1), .ireturn])]
/-- DriverHost.bestDelay(I)I -/
def s_141 : List (Nat × List Instr) := [(0, [.iload 1, .iconst 0, .iconst 200, .invokestatic 151, .ifCond .eq 25, .aload 0, .getfield 707, .getfield 641, .iload 1, .iadd, .iconst (1000000), .if_icmp .le 35]),
  (25, [.invokedynamic 1]),
  (35, [.iconst (-1), .istore 2, .iconst (-1), .istore 3, .iconst 16, .aload 0, .getfield 707, .getfield 640, .getfield 324, .invokestatic 9001, .istore 4, .iconst 1, .istore 5]),
  (59, [.iload 5, .iload 4, .if_icmp .gt 109, .aload 0, .invokevirtual 142, .astore 6, .aload 6, .iload 5, .putfield 643, .aload 6, .iload 1, .invokevirtual 83, .aload 6, .invokevirtual 81, .iload 3, .if_icmp .le 103, .aload 6, .invokevirtual 81, .istore 3, .iload 5, .istore 2]),
  (103, [.iinc 5 1, .goto 59]),
  (109, [.iload 2, .ireturn])]
/-- DriverHost.freshTrial()LDriverHost$World; -/
def s_142 : List (Nat × List Instr) := [(0, [.aload 0, .getfield 711, .ifnonnull 25, .aload 0, .new 10, .dup, .aload 0, .getfield 707, .getfield 640, .invokespecial 77, .putfield 711]),
  (25, [.aload 0, .getfield 711, .aload 0, .getfield 707, .invokevirtual 78, .aload 0, .getfield 711, .areturn])]
/-- DriverHost.decision(I)I -/
def s_143 : List (Nat × List Instr) := [(0, [.aload 0, .getfield 707, .iload 1, .invokevirtual 80, .astore 2, .aload 2, .getfield 455, .iconst 1, .if_icmp .ne 28, .aload 0, .getfield 707, .aload 2, .invokevirtual 86, .goto 29]),
  (28, [.iconst (-1)]),
  (29, [.ireturn])]
/-- DriverHost.undoCount()I -/
def s_144 : List (Nat × List Instr) := [(0, [.aload 0, .getfield 708, .getfield 194, .ireturn])]
/-- DriverHost.undo()I -/
def s_145 : List (Nat × List Instr) := [(0, [.aload 0, .getfield 708, .aload 0, .getfield 707, .invokevirtual 22, .ireturn])]
/-- DriverHost.saveState()V -/
def s_146 : List (Nat × List Instr) := [(0, [.aload 0, .getfield 709, .ifnonnull 25, .aload 0, .new 10, .dup, .aload 0, .getfield 707, .getfield 640, .invokespecial 77, .putfield 709]),
  (25, [.aload 0, .getfield 709, .aload 0, .getfield 707, .invokevirtual 78, .aload 0, .iconst 1, .putfield 710, .return_])]
/-- DriverHost.restoreState()Z -/
def s_147 : List (Nat × List Instr) := [(0, [.aload 0, .getfield 710, .ifCond .eq 14, .aload 0, .getfield 709, .ifnonnull 16]),
  (14, [.iconst 0, .ret 0]),
  (16, [.aload 0, .getfield 707, .aload 0, .getfield 709, .invokevirtual 78, .aload 0, .getfield 708, .invokevirtual 20, .iconst 1, .ret 0])]
/-- DriverHost.query(I)I -/
def s_148 : List (Nat × List Instr) := [(0, [.iload 1, .iconst 0, .iconst 200, .invokestatic 151, .ifCond .eq 19, .iload 1, .aload 0, .getfield 705, .if_icmp .le 29]),
  (19, [.invokedynamic 1]),
  (29, [.new 6, .dup, .aload 0, .getfield 704, .iload 1, .iconst 1, .invokespecial 31, .astore 2, .aload 2, .invokevirtual 33, .aload 0, .iconst 0, .putfield 705, .aload 0, .aload 2, .getfield 384, .getfield 522, .putfield 706, .aload 2, .getfield 384, .getfield 521, .ifCond .eq 85, .iconst (-1000000000), .aload 2, .getfield 384, .getfield 521, .isub, .ireturn]),
  (85, [.aload 2, .getfield 388, .ifCond .eq 103, .aload 0, .aload 2, .getfield 387, .invokevirtual 150, .goto 111]),
  (103, [.aload 0, .aload 2, .getfield 387, .invokevirtual 149]),
  (111, [.ireturn])]
/-- DriverHost.countMatches(LDriverHost$Code;)I -/
def s_149 : List (Nat × List Instr) := [(0, [.iconst 11, .newarray .int, .astore 2, .iconst 0, .istore 3, .iconst 0, .istore 4]),
  (10, [.iload 4, .aload 0, .getfield 707, .getfield 642, .if_icmp .ge 45, .aload 0, .getfield 707, .iload 4, .aload 1, .aload 2, .invokevirtual 103, .ifCond .eq 39, .iinc 3 1]),
  (39, [.iinc 4 1, .goto 10]),
  (45, [.iload 3, .ireturn])]
/-- DriverHost.firstMatch(LDriverHost$Code;)I -/
def s_150 : List (Nat × List Instr) := [(0, [.iconst 11, .newarray .int, .astore 2, .iconst 0, .istore 3]),
  (7, [.iload 3, .aload 0, .getfield 707, .getfield 642, .if_icmp .ge 39, .aload 0, .getfield 707, .iload 3, .aload 1, .aload 2, .invokevirtual 103, .ifCond .eq 33, .iload 3, .ireturn]),
  (33, [.iinc 3 1, .goto 7]),
  (39, [.iconst (-1), .ireturn])]
/-- DriverHost.isWithin(III)Z -/
def s_151 : List (Nat × List Instr) := [(0, [.iload 0, .iload 1, .if_icmp .lt 14, .iload 0, .iload 2, .if_icmp .gt 14, .iconst 1, .goto 15]),
  (14, [.iconst 0]),
  (15, [.ret 0])]
/-- DriverHostModel.<init>()V -/
def s_152 : List (Nat × List Instr) := [(0, [.aload 0, .invokespecial 9000, .aload 0, .iconst 20, .newarray .int, .putfield 769, .aload 0, .iconst 16, .newarray .int, .putfield 770, .aload 0, .iconst 16, .newarray .int, .putfield 771, .aload 0, .iconst 16, .newarray .int, .putfield 772, .aload 0, .iconst 16, .newarray .int, .putfield 773, .aload 0, .iconst 16, .newarray .int, .putfield 774, .aload 0, .iconst 16, .newarray .int, .putfield 775, .aload 0, .iconst 16, .newarray .int, .putfield 776, .aload 0, .iconst 2400, .newarray .int, .putfield 777, .aload 0, .iconst 8, .newarray .int, .putfield 778, .aload 0, .iconst 8, .newarray .int, .putfield 779, .aload 0, .iconst 2392, .newarray .int, .putfield 780, .aload 0, .iconst 2392, .newarray .int, .putfield 781, .aload 0, .iconst 2392, .newarray .int, .putfield 782, .aload 0, .iconst 23920, .newarray .int, .putfield 783, .aload 0, .iconst 900, .newarray .int, .putfield 786, .aload 0, .iconst (-1), .putfield 795, .aload 0, .iconst 900, .newarray .int, .putfield 796, .aload 0, .iconst 900, .newarray .int, .putfield 797, .aload 0, .iconst 200, .newarray .int, .putfield 798, .aload 0, .invokevirtual 156, .aload 0, .invokevirtual 158, .return_])]
/-- DriverHostModel.in(JJJ)Z -/
def s_153 : List (Nat × List Instr) := [(0, [.lload 0, .lload 2, .lcmp, .ifCond .lt 17, .lload 0, .lload 4, .lcmp, .ifCond .gt 17, .iconst 1, .goto 18]),
  (17, [.iconst 0]),
  (18, [.ret 0])]
/-- DriverHostModel.fails(ZI)Z -/
def s_154 : List (Nat × List Instr) := [(0, [.iload 1, .ifCond .eq 6, .iconst 0, .ret 0]),
  (6, [.aload 0, .iload 2, .putfield 768, .iconst 1, .ret 0])]
/-- DriverHostModel.lesser(II)I -/
def s_155 : List (Nat × List Instr) := [(0, [.iload 0, .iload 1, .if_icmp .ge 9, .iload 0, .goto 10]),
  (9, [.iload 1]),
  (10, [.ireturn])]
/-- DriverHostModel.standard()V -/
def s_156 : List (Nat × List Instr) := [(0, [.iconst 0, .istore 1]),
  (2, [.iload 1, .iconst 10, .if_icmp .ge 24, .aload 0, .getfield 769, .iconst 10, .iload 1, .iadd, .iconst 0, .iastore, .iinc 1 1, .goto 2]),
  (24, [.aload 0, .getfield 769, .iconst 10, .iconst 1, .iastore, .aload 0, .getfield 769, .iconst 12, .iconst 2, .iastore, .aload 0, .getfield 769, .iconst 13, .iconst 32, .iastore, .aload 0, .getfield 769, .iconst 14, .iconst 20, .iastore, .aload 0, .getfield 769, .iconst 15, .iconst 5, .iastore, .aload 0, .getfield 769, .iconst 16, .iconst 3, .iastore, .aload 0, .getfield 769, .iconst 17, .iconst 4, .iastore, .aload 0, .getfield 769, .iconst 18, .iconst 1, .iastore, .return_])]
/-- DriverHostModel.shifts([I)V -/
def s_157 : List (Nat × List Instr) := [(0, [.aload 0, .ldc_w 100, .iconst 2, .idiv, .istore 1, .iconst 0, .istore 2]),
  (7, [.iload 2, .iload 1, .if_icmp .ge 26, .aload 0, .iload 2, .aload 0, .iload 1, .iload 2, .iadd, .iaload, .iastore, .iinc 2 1, .goto 7]),
  (26, [.return_])]
/-- DriverHostModel.takesOver()V -/
def s_158 : List (Nat × List Instr) := [(0, [.aload 0, .getfield 769, .invokestatic 157, .aload 0, .getfield 770, .invokestatic 157, .aload 0, .getfield 771, .invokestatic 157, .aload 0, .getfield 776, .invokestatic 157, .aload 0, .getfield 772, .invokestatic 157, .aload 0, .getfield 773, .invokestatic 157, .aload 0, .getfield 774, .invokestatic 157, .aload 0, .getfield 775, .invokestatic 157, .aload 0, .getfield 777, .invokestatic 157, .iconst 0, .istore 1]),
  (65, [.iload 1, .iconst 2392, .if_icmp .ge 85, .aload 0, .getfield 780, .iload 1, .iconst 0, .iastore, .iinc 1 1, .goto 65]),
  (85, [.iconst 0, .istore 1]),
  (87, [.iload 1, .iconst 4, .if_icmp .ge 118, .aload 0, .getfield 780, .iconst 28, .iload 1, .iadd, .iconst (-1), .iastore, .aload 0, .getfield 780, .iconst 32, .iload 1, .iadd, .iconst (-1), .iastore, .iinc 1 1, .goto 87]),
  (118, [.aload 0, .iconst 0, .putfield 785, .aload 0, .iconst 0, .putfield 784, .return_])]
/-- DriverHostModel.copy([I[I)V -/
def s_159 : List (Nat × List Instr) := [(0, [.iconst 0, .istore 2]),
  (2, [.iload 2, .iconst 2392, .if_icmp .ge 21, .aload 1, .iload 2, .aload 0, .iload 2, .iaload, .iastore, .iinc 2 1, .goto 2]),
  (21, [.return_])]
/-- DriverHostModel.lays(I)V -/
def s_160 : List (Nat × List Instr) := [(0, [.iconst 24, .istore 2]),
  (3, [.iload 2, .ifCond .lt 39, .aload 0, .getfield 786, .aload 0, .getfield 787, .iload 1, .iload 2, .ishr, .iconst 255, .iand, .iastore, .aload 0, .dup, .getfield 787, .iconst 1, .iadd, .putfield 787, .iinc 2 (-8), .goto 3]),
  (39, [.return_])]
/-- DriverHostModel.feed(IIIII)I -/
def s_161 : List (Nat × List Instr) := [(0, [.aload 0, .iconst 0, .putfield 768, .aload 0, .getfield 787, .iconst 20, .iadd, .iconst 900, .if_icmp .le 20, .iconst (-1), .ireturn]),
  (20, [.aload 0, .iload 1, .invokevirtual 160, .aload 0, .iload 2, .invokevirtual 160, .aload 0, .iload 3, .invokevirtual 160, .aload 0, .iload 4, .invokevirtual 160, .aload 0, .iload 5, .invokevirtual 160, .aload 0, .getfield 787, .ireturn])]
/-- DriverHostModel.errorPosition()I -/
def s_162 : List (Nat × List Instr) := [(0, [.aload 0, .iconst 0, .putfield 768, .aload 0, .getfield 795, .ireturn])]
/-- DriverHostModel.byteAt(I)I -/
def s_163 : List (Nat × List Instr) := [(0, [.iload 1, .aload 0, .getfield 788, .if_icmp .ge 17, .aload 0, .getfield 786, .iload 1, .iaload, .goto 18]),
  (17, [.iconst (-1)]),
  (18, [.ireturn])]
/-- DriverHostModel.isLetter(I)Z -/
def s_164 : List (Nat × List Instr) := [(0, [.iload 0, .iconst 97, .if_icmp .lt 16, .iload 0, .iconst 122, .if_icmp .gt 16, .iconst 1, .goto 17]),
  (16, [.iconst 0]),
  (17, [.ret 0])]
/-- DriverHostModel.isFigure(I)Z -/
def s_165 : List (Nat × List Instr) := [(0, [.iload 0, .iconst 48, .if_icmp .lt 16, .iload 0, .iconst 57, .if_icmp .gt 16, .iconst 1, .goto 17]),
  (16, [.iconst 0]),
  (17, [.ret 0])]
/-- DriverHostModel.readsWord()V -/
def s_166 : List (Nat × List Instr) := [(0, [.aload 0, .ldc2_w 0, .putfield 793]),
  (5, [.aload 0, .aload 0, .getfield 789, .invokevirtual 163, .invokestatic 164, .ifCond .eq 73, .aload 0, .getfield 789, .aload 0, .getfield 790, .isub, .iconst 10, .if_icmp .ge 60, .aload 0, .ldc2_w 27, .aload 0, .getfield 793, .lmul, .aload 0, .getfield 786, .aload 0, .getfield 789, .iaload, .i2l, .ladd, .ldc2_w 96, .lsub, .putfield 793]),
  (60, [.aload 0, .dup, .getfield 789, .iconst 1, .iadd, .putfield 789, .goto 5]),
  (73, [.aload 0, .iconst 1, .putfield 791, .return_])]
/-- DriverHostModel.readsNumber()V -/
def s_167 : List (Nat × List Instr) := [(0, [.aload 0, .iconst 0, .putfield 792]),
  (5, [.aload 0, .aload 0, .getfield 789, .invokevirtual 163, .invokestatic 165, .ifCond .eq 70, .aload 0, .aload 0, .getfield 792, .iconst (99999), .if_icmp .le 34, .iconst (1000000), .goto 54]),
  (34, [.iconst 10, .aload 0, .getfield 792, .imul, .aload 0, .getfield 786, .aload 0, .getfield 789, .iaload, .iadd, .iconst 48, .isub]),
  (54, [.putfield 792, .aload 0, .dup, .getfield 789, .iconst 1, .iadd, .putfield 789, .goto 5]),
  (70, [.aload 0, .iconst 2, .putfield 791, .return_])]
/-- DriverHostModel.next()V -/
def s_168 : List (Nat × List Instr) := [(0, [.aload 0, .aload 0, .getfield 789, .invokevirtual 163, .iconst 32, .if_icmp .eq 26, .aload 0, .aload 0, .getfield 789, .invokevirtual 163, .iconst 10, .if_icmp .ne 39]),
  (26, [.aload 0, .dup, .getfield 789, .iconst 1, .iadd, .putfield 789, .goto 0]),
  (39, [.aload 0, .aload 0, .getfield 789, .putfield 790, .aload 0, .getfield 789, .aload 0, .getfield 788, .if_icmp .lt 66, .aload 0, .iconst 0, .putfield 791, .goto 125]),
  (66, [.aload 0, .getfield 786, .aload 0, .getfield 789, .iaload, .invokestatic 164, .ifCond .eq 88, .aload 0, .invokevirtual 166, .goto 125]),
  (88, [.aload 0, .getfield 786, .aload 0, .getfield 789, .iaload, .invokestatic 165, .ifCond .eq 110, .aload 0, .invokevirtual 167, .goto 125]),
  (110, [.aload 0, .iconst 3, .putfield 791, .aload 0, .dup, .getfield 789, .iconst 1, .iadd, .putfield 789]),
  (125, [.return_])]
/-- DriverHostModel.starts(I)V -/
def s_169 : List (Nat × List Instr) := [(0, [.aload 0, .iload 1, .putfield 788, .aload 0, .iconst 0, .putfield 787, .aload 0, .iconst 0, .putfield 789, .aload 0, .iconst 0, .putfield 794, .aload 0, .iconst (-1), .putfield 795, .aload 0, .invokevirtual 168, .return_])]
/-- DriverHostModel.wrongs(I)Z -/
def s_170 : List (Nat × List Instr) := [(0, [.aload 0, .getfield 794, .ifCond .ne 20, .aload 0, .iload 1, .putfield 794, .aload 0, .aload 0, .getfield 790, .putfield 795]),
  (20, [.iconst 0, .ret 0])]
/-- DriverHostModel.isGood()Z -/
def s_171 : List (Nat × List Instr) := [(0, [.aload 0, .getfield 794, .ifCond .ne 11, .iconst 1, .goto 12]),
  (11, [.iconst 0]),
  (12, [.ret 0])]
/-- DriverHostModel.isWord(J)Z -/
def s_172 : List (Nat × List Instr) := [(0, [.aload 0, .invokevirtual 171, .ifCond .eq 42, .aload 0, .getfield 791, .iconst 1, .if_icmp .ne 42, .aload 0, .getfield 789, .aload 0, .getfield 790, .isub, .iconst 10, .if_icmp .gt 42, .aload 0, .getfield 793, .lload 1, .lcmp, .ifCond .ne 42, .iconst 1, .goto 43]),
  (42, [.iconst 0]),
  (43, [.ret 0])]
/-- DriverHostModel.passes(J)Z -/
def s_173 : List (Nat × List Instr) := [(0, [.aload 0, .lload 1, .invokevirtual 172, .ifCond .ne 10, .iconst 0, .ret 0]),
  (10, [.aload 0, .invokevirtual 168, .iconst 1, .ret 0])]
/-- DriverHostModel.isByte(I)Z -/
def s_174 : List (Nat × List Instr) := [(0, [.aload 0, .invokevirtual 171, .ifCond .eq 32, .aload 0, .getfield 791, .iconst 3, .if_icmp .ne 32, .aload 0, .getfield 786, .aload 0, .getfield 790, .iaload, .iload 1, .if_icmp .ne 32, .iconst 1, .goto 33]),
  (32, [.iconst 0]),
  (33, [.ret 0])]
/-- DriverHostModel.must(I)V -/
def s_175 : List (Nat × List Instr) := [(0, [.aload 0, .invokevirtual 171, .ifCond .ne 8, .return_]),
  (8, [.aload 0, .iload 1, .invokevirtual 174, .ifCond .eq 23, .aload 0, .invokevirtual 168, .goto 29]),
  (23, [.aload 0, .iconst 1, .invokevirtual 170, .pop]),
  (29, [.return_])]
/-- DriverHostModel.number(II)I -/
def s_176 : List (Nat × List Instr) := [(0, [.aload 0, .invokevirtual 171, .ifCond .ne 9, .iload 1, .ireturn]),
  (9, [.aload 0, .getfield 791, .iconst 2, .if_icmp .eq 26, .aload 0, .iconst 1, .invokevirtual 170, .pop, .goto 47]),
  (26, [.aload 0, .getfield 792, .i2l, .iload 1, .i2l, .iload 2, .i2l, .invokestatic 153, .ifCond .ne 47, .aload 0, .iconst 2, .invokevirtual 170, .pop]),
  (47, [.aload 0, .invokevirtual 171, .ifCond .ne 56, .iload 1, .ireturn]),
  (56, [.aload 0, .getfield 792, .istore 3, .aload 0, .invokevirtual 168, .iload 3, .ireturn])]
/-- DriverHostModel.isClauseWord()Z -/
def s_177 : List (Nat × List Instr) := [(0, [.aload 0, .ldc2_w 1813182427, .invokevirtual 172, .ifCond .ne 120, .aload 0, .ldc2_w 1384660795, .invokevirtual 172, .ifCond .ne 120, .aload 0, .ldc2_w 400577, .invokevirtual 172, .ifCond .ne 120, .aload 0, .ldc2_w 261327161, .invokevirtual 172, .ifCond .ne 120, .aload 0, .ldc2_w 14006, .invokevirtual 172, .ifCond .ne 120, .aload 0, .ldc2_w 220309, .invokevirtual 172, .ifCond .ne 120, .aload 0, .ldc2_w 2232979, .invokevirtual 172, .ifCond .ne 120, .aload 0, .ldc2_w 60115, .invokevirtual 172, .ifCond .ne 120, .aload 0, .ldc2_w 283616030, .invokevirtual 172, .ifCond .ne 120, .aload 0, .ldc2_w 237745544, .invokevirtual 172, .ifCond .ne 120, .aload 0, .ldc2_w 3094387, .invokevirtual 172, .ifCond .ne 120, .aload 0, .ldc2_w 84273568011, .invokevirtual 172, .ifCond .eq 124]),
  (120, [.iconst 1, .goto 125]),
  (124, [.iconst 0]),
  (125, [.ret 0])]
/-- DriverHostModel.isInnerWord()Z -/
def s_178 : List (Nat × List Instr) := [(0, [.aload 0, .invokevirtual 179, .iconst (-1), .if_icmp .ne 98, .aload 0, .ldc2_w 423, .invokevirtual 172, .ifCond .ne 98, .aload 0, .ldc2_w 1111, .invokevirtual 172, .ifCond .ne 98, .aload 0, .ldc2_w 10631, .invokevirtual 172, .ifCond .ne 98, .aload 0, .ldc2_w 13264, .invokevirtual 172, .ifCond .ne 98, .aload 0, .ldc2_w 16083, .invokevirtual 172, .ifCond .ne 98, .aload 0, .ldc2_w 1222, .invokevirtual 172, .ifCond .ne 98, .aload 0, .ldc2_w 13276, .invokevirtual 172, .ifCond .ne 98, .aload 0, .ldc2_w 257011, .invokevirtual 172, .ifCond .ne 98, .aload 0, .ldc2_w 3379448, .invokevirtual 172, .ifCond .eq 102]),
  (98, [.iconst 1, .goto 103]),
  (102, [.iconst 0]),
  (103, [.ret 0])]
/-- DriverHostModel.classHere()I -/
def s_179 : List (Nat × List Instr) := [(0, [.aload 0, .ldc2_w 330728, .invokevirtual 172, .ifCond .eq 12, .iconst 0, .ireturn]),
  (12, [.aload 0, .ldc2_w 670208, .invokevirtual 172, .ifCond .eq 24, .iconst 1, .ireturn]),
  (24, [.aload 0, .ldc2_w 305537, .invokevirtual 172, .ifCond .eq 36, .iconst 2, .ireturn]),
  (36, [.aload 0, .ldc2_w 1755524, .invokevirtual 172, .ifCond .eq 50, .iconst 3, .goto 51]),
  (50, [.iconst (-1)]),
  (51, [.ireturn])]
/-- DriverHostModel.propertyHere()I -/
def s_180 : List (Nat × List Instr) := [(0, [.aload 0, .ldc2_w 212302449, .invokevirtual 172, .ifCond .eq 12, .iconst 0, .ireturn]),
  (12, [.aload 0, .ldc2_w 67154904, .invokevirtual 172, .ifCond .eq 24, .iconst 1, .ireturn]),
  (24, [.aload 0, .ldc2_w 223456, .invokevirtual 172, .ifCond .eq 36, .iconst 2, .ireturn]),
  (36, [.aload 0, .ldc2_w 1831780, .invokevirtual 172, .ifCond .eq 48, .iconst 3, .ireturn]),
  (48, [.aload 0, .ldc2_w 17545784537, .invokevirtual 172, .ifCond .eq 60, .iconst 4, .ireturn]),
  (60, [.aload 0, .ldc2_w 174476693248, .invokevirtual 172, .ifCond .eq 72, .iconst 5, .ireturn]),
  (72, [.aload 0, .ldc2_w 10492313, .invokevirtual 172, .ifCond .eq 85, .iconst 6, .ireturn]),
  (85, [.aload 0, .ldc2_w 2343906806, .invokevirtual 172, .ifCond .eq 98, .iconst 7, .ireturn]),
  (98, [.aload 0, .ldc2_w 261327161, .invokevirtual 172, .ifCond .eq 111, .iconst 8, .ireturn]),
  (111, [.aload 0, .ldc2_w 44960072472307, .invokevirtual 172, .ifCond .eq 124, .iconst 9, .ireturn]),
  (124, [.aload 0, .ldc2_w 1421453197, .invokevirtual 172, .ifCond .eq 139, .iconst 10, .goto 140]),
  (139, [.iconst (-1)]),
  (140, [.ireturn])]
/-- DriverHostModel.isName()Z -/
def s_181 : List (Nat × List Instr) := [(0, [.aload 0, .getfield 791, .iconst 1, .if_icmp .ne 34, .aload 0, .invokevirtual 177, .ifCond .ne 34, .aload 0, .invokevirtual 178, .ifCond .ne 34, .aload 0, .invokevirtual 180, .iconst (-1), .if_icmp .ne 34, .iconst 1, .goto 35]),
  (34, [.iconst 0]),
  (35, [.ret 0])]
/-- DriverHostModel.isNamed(I)Z -/
def s_182 : List (Nat × List Instr) := [(0, [.aload 0, .getfield 779, .iload 1, .iaload, .aload 0, .getfield 789, .aload 0, .getfield 790, .isub, .if_icmp .eq 20, .iconst 0, .ret 0]),
  (20, [.iconst 0, .istore 2]),
  (22, [.iload 2, .aload 0, .getfield 779, .iload 1, .iaload, .if_icmp .ge 67, .aload 0, .getfield 786, .aload 0, .getfield 778, .iload 1, .iaload, .iload 2, .iadd, .iaload, .aload 0, .getfield 786, .aload 0, .getfield 790, .iload 2, .iadd, .iaload, .if_icmp .eq 61, .iconst 0, .ret 0]),
  (61, [.iinc 2 1, .goto 22]),
  (67, [.iconst 1, .ret 0])]
/-- DriverHostModel.nameRead(I)V -/
def s_183 : List (Nat × List Instr) := [(0, [.aload 0, .invokevirtual 171, .ifCond .ne 8, .return_]),
  (8, [.aload 0, .invokevirtual 181, .ifCond .ne 21, .aload 0, .iconst 1, .invokevirtual 170, .pop]),
  (21, [.iconst 0, .istore 2]),
  (23, [.iload 2, .iload 1, .if_icmp .ge 55, .aload 0, .invokevirtual 171, .ifCond .eq 55, .aload 0, .iload 2, .invokevirtual 182, .ifCond .eq 49, .aload 0, .iconst 4, .invokevirtual 170, .pop]),
  (49, [.iinc 2 1, .goto 23]),
  (55, [.aload 0, .invokevirtual 171, .ifCond .ne 63, .return_]),
  (63, [.aload 0, .getfield 778, .iload 1, .aload 0, .getfield 790, .iastore, .aload 0, .getfield 779, .iload 1, .aload 0, .getfield 789, .aload 0, .getfield 790, .isub, .iastore, .aload 0, .invokevirtual 168, .return_])]
/-- DriverHostModel.adds(I)V -/
def s_184 : List (Nat × List Instr) := [(0, [.aload 0, .getfield 803, .ifCond .eq 20, .aload 0, .getfield 798, .aload 0, .getfield 799, .iload 1, .iastore, .goto 30]),
  (20, [.aload 0, .getfield 777, .aload 0, .getfield 799, .iload 1, .iastore]),
  (30, [.aload 0, .dup, .getfield 799, .iconst 1, .iadd, .putfield 799, .return_])]
/-- DriverHostModel.goesIn(I)Z -/
def s_185 : List (Nat × List Instr) := [(0, [.aload 0, .getfield 801, .iconst 6, .if_icmp .ne 15, .aload 0, .iconst 3, .invokevirtual 170, .ret 0]),
  (15, [.aload 0, .dup, .getfield 801, .iconst 1, .iadd, .putfield 801, .aload 0, .getfield 796, .aload 0, .getfield 800, .iload 1, .iastore, .aload 0, .dup, .getfield 800, .iconst 1, .iadd, .putfield 800, .aload 0, .invokevirtual 168, .iconst 1, .ret 0])]
/-- DriverHostModel.operandRead()V -/
def s_186 : List (Nat × List Instr) := [(0, [.aload 0, .invokevirtual 171, .ifCond .ne 8, .return_]),
  (8, [.aload 0, .getfield 791, .iconst 2, .if_icmp .ne 37, .aload 0, .iconst 0, .iconst (65535), .invokevirtual 176, .istore 1, .aload 0, .iconst 1000, .iload 1, .iadd, .invokevirtual 184, .goto 155]),
  (37, [.aload 0, .getfield 802, .iconst 4, .if_icmp .eq 69, .aload 0, .ldc2_w 13264, .invokevirtual 173, .ifCond .eq 69, .aload 0, .aload 0, .iconst 0, .iconst 7, .invokevirtual 176, .invokevirtual 184, .goto 155]),
  (69, [.aload 0, .getfield 802, .iconst 1, .if_icmp .eq 103, .aload 0, .ldc2_w 16083, .invokevirtual 173, .ifCond .eq 103, .aload 0, .iconst 8, .aload 0, .iconst 0, .iconst 3, .invokevirtual 176, .iadd, .invokevirtual 184, .goto 155]),
  (103, [.aload 0, .ldc2_w 1222, .invokevirtual 173, .ifCond .eq 122, .aload 0, .iconst 12, .invokevirtual 184, .goto 155]),
  (122, [.aload 0, .getfield 802, .iconst 3, .if_icmp .lt 149, .aload 0, .ldc2_w 13276, .invokevirtual 173, .ifCond .eq 149, .aload 0, .iconst 13, .invokevirtual 184, .goto 155]),
  (149, [.aload 0, .iconst 1, .invokevirtual 170, .pop]),
  (155, [.return_])]
/-- DriverHostModel.rank(I)I -/
def s_187 : List (Nat × List Instr) := [(0, [.iload 0, .iconst 28, .if_icmp .ne 10, .iconst 3, .goto 27]),
  (10, [.iload 0, .iconst 26, .if_icmp .eq 22, .iload 0, .iconst 27, .if_icmp .ne 26]),
  (22, [.iconst 2, .goto 27]),
  (26, [.iconst 0]),
  (27, [.ireturn])]
/-- DriverHostModel.sumSettles(II)V -/
def s_188 : List (Nat × List Instr) := [(0, [.aload 0, .getfield 800, .iload 1, .if_icmp .le 52, .aload 0, .getfield 796, .aload 0, .getfield 800, .iconst 1, .isub, .iaload, .invokestatic 187, .iload 2, .if_icmp .lt 52, .aload 0, .dup, .getfield 800, .iconst 1, .isub, .putfield 800, .aload 0, .aload 0, .getfield 796, .aload 0, .getfield 800, .iaload, .invokevirtual 184, .goto 0]),
  (52, [.return_])]
/-- DriverHostModel.hasBracket(I)Z -/
def s_189 : List (Nat × List Instr) := [(0, [.iload 1, .istore 2]),
  (2, [.iload 2, .aload 0, .getfield 800, .if_icmp .ge 28, .aload 0, .getfield 796, .iload 2, .iaload, .iconst 2, .if_icmp .ne 22, .iconst 1, .ret 0]),
  (22, [.iinc 2 1, .goto 2]),
  (28, [.iconst 0, .ret 0])]
/-- DriverHostModel.operatorHere()I -/
def s_190 : List (Nat × List Instr) := [(0, [.aload 0, .iconst 42, .invokevirtual 174, .ifCond .eq 14, .iconst 28, .goto 43]),
  (14, [.aload 0, .iconst 43, .invokevirtual 174, .ifCond .eq 28, .iconst 26, .goto 43]),
  (28, [.aload 0, .iconst 45, .invokevirtual 174, .ifCond .eq 42, .iconst 27, .goto 43]),
  (42, [.iconst 0]),
  (43, [.ireturn])]
/-- DriverHostModel.sumRead()V -/
def s_191 : List (Nat × List Instr) := [(0, [.aload 0, .getfield 800, .istore 1, .aload 0, .invokevirtual 171, .istore 2]),
  (10, [.iload 2, .ifCond .eq 144]),
  (14, [.aload 0, .iconst 40, .invokevirtual 174, .ifCond .eq 32, .aload 0, .iconst 2, .invokevirtual 185, .ifCond .ne 14, .return_]),
  (32, [.aload 0, .invokevirtual 186]),
  (36, [.aload 0, .iconst 41, .invokevirtual 174, .ifCond .eq 86, .aload 0, .iload 1, .invokevirtual 189, .ifCond .eq 86, .aload 0, .iload 1, .iconst 2, .invokevirtual 188, .aload 0, .dup, .getfield 800, .iconst 1, .isub, .putfield 800, .aload 0, .dup, .getfield 801, .iconst 1, .isub, .putfield 801, .aload 0, .invokevirtual 168, .goto 36]),
  (86, [.aload 0, .invokevirtual 190, .istore 3, .iload 3, .ifCond .eq 99, .iconst 1, .goto 100]),
  (99, [.iconst 0]),
  (100, [.istore 2, .iload 2, .ifCond .ne 108, .goto 10]),
  (108, [.aload 0, .iload 1, .iload 3, .invokestatic 187, .invokevirtual 188, .aload 0, .getfield 796, .aload 0, .getfield 800, .iload 3, .iastore, .aload 0, .dup, .getfield 800, .iconst 1, .iadd, .putfield 800, .aload 0, .invokevirtual 168, .goto 10]),
  (144, [.aload 0, .invokevirtual 171, .ifCond .eq 165, .aload 0, .iload 1, .invokevirtual 189, .ifCond .eq 165, .aload 0, .iconst 1, .invokevirtual 170, .pop]),
  (165, [.aload 0, .invokevirtual 171, .ifCond .eq 178, .aload 0, .iload 1, .iconst 2, .invokevirtual 188]),
  (178, [.return_])]
/-- DriverHostModel.valueRead()V -/
def s_192 : List (Nat × List Instr) := [(0, [.aload 0, .invokevirtual 171, .ifCond .ne 8, .return_]),
  (8, [.aload 0, .getfield 791, .iconst 2, .if_icmp .ne 34, .aload 0, .iconst 0, .iconst (99999), .invokevirtual 176, .istore 1, .aload 0, .iconst 1000, .iload 1, .iadd, .invokevirtual 184, .return_]),
  (34, [.aload 0, .invokevirtual 180, .istore 1, .iload 1, .iconst (-1), .if_icmp .ne 50, .aload 0, .iconst 1, .invokevirtual 170, .pop]),
  (50, [.aload 0, .invokevirtual 171, .ifCond .ne 58, .return_]),
  (58, [.aload 0, .iload 1, .invokevirtual 184, .aload 0, .invokevirtual 168, .return_])]
/-- DriverHostModel.sideRead()V -/
def s_193 : List (Nat × List Instr) := [(0, [.aload 0, .getfield 803, .ifCond .eq 14, .aload 0, .invokevirtual 192, .goto 18]),
  (14, [.aload 0, .invokevirtual 191]),
  (18, [.return_])]
/-- DriverHostModel.strength(I)I -/
def s_194 : List (Nat × List Instr) := [(0, [.iload 0, .iconst 25, .if_icmp .ne 10, .iconst 1, .goto 31]),
  (10, [.iload 0, .iconst 24, .if_icmp .ne 20, .iconst 2, .goto 31]),
  (20, [.iload 0, .iconst 23, .if_icmp .ne 30, .iconst 3, .goto 31]),
  (30, [.iconst 0]),
  (31, [.ireturn])]
/-- DriverHostModel.settles(I)V -/
def s_195 : List (Nat × List Instr) := [(0, [.aload 0, .invokevirtual 171, .ifCond .eq 82, .aload 0, .getfield 800, .ifCond .le 82, .aload 0, .getfield 796, .aload 0, .getfield 800, .iconst 1, .isub, .iaload, .invokestatic 194, .iload 1, .if_icmp .lt 82, .aload 0, .dup, .getfield 800, .iconst 1, .isub, .putfield 800, .aload 0, .aload 0, .getfield 796, .aload 0, .getfield 800, .iaload, .invokevirtual 184, .aload 0, .getfield 796, .aload 0, .getfield 800, .iaload, .iconst 23, .if_icmp .ne 0, .aload 0, .dup, .getfield 801, .iconst 1, .isub, .putfield 801, .goto 0]),
  (82, [.return_])]
/-- DriverHostModel.isInside()Z -/
def s_196 : List (Nat × List Instr) := [(0, [.iconst 0, .istore 1]),
  (2, [.iload 1, .aload 0, .getfield 800, .if_icmp .ge 28, .aload 0, .getfield 796, .iload 1, .iaload, .iconst 1, .if_icmp .ne 22, .iconst 1, .ret 0]),
  (22, [.iinc 1 1, .goto 2]),
  (28, [.iconst 0, .ret 0])]
/-- DriverHostModel.isOpening()Z -/
def s_197 : List (Nat × List Instr) := [(0, [.aload 0, .aload 0, .getfield 803, .ifCond .eq 13, .iconst 40, .goto 15]),
  (13, [.iconst 91]),
  (15, [.invokevirtual 174, .ret 0])]
/-- DriverHostModel.comparisonRead()V -/
def s_198 : List (Nat × List Instr) := [(0, [.aload 0, .ldc2_w 10631, .invokevirtual 172, .ifCond .ne 17, .aload 0, .invokevirtual 197, .ifCond .eq 41]),
  (17, [.aload 0, .aload 0, .ldc2_w 10631, .invokevirtual 172, .ifCond .eq 33, .iconst 23, .goto 34]),
  (33, [.iconst 1]),
  (34, [.invokevirtual 185, .ifCond .ne 0, .return_]),
  (41, [.aload 0, .invokevirtual 193, .aload 0, .iconst 60, .invokevirtual 174, .ifCond .eq 59, .iconst 20, .goto 75]),
  (59, [.aload 0, .iconst 62, .invokevirtual 174, .ifCond .eq 73, .iconst 22, .goto 75]),
  (73, [.iconst 21]),
  (75, [.istore 1, .iload 1, .iconst 21, .if_icmp .ne 97, .aload 0, .iconst 61, .invokevirtual 174, .ifCond .ne 97, .aload 0, .iconst 1, .invokevirtual 170, .pop]),
  (97, [.aload 0, .invokevirtual 171, .ifCond .ne 105, .return_]),
  (105, [.aload 0, .invokevirtual 168, .aload 0, .invokevirtual 193, .aload 0, .invokevirtual 171, .ifCond .eq 125, .aload 0, .iload 1, .invokevirtual 184]),
  (125, [.return_])]
/-- DriverHostModel.closes()V -/
def s_199 : List (Nat × List Instr) := [(0, [.aload 0, .iconst 3, .invokevirtual 195]),
  (5, [.aload 0, .aload 0, .getfield 803, .ifCond .eq 18, .iconst 41, .goto 20]),
  (18, [.iconst 93]),
  (20, [.invokevirtual 174, .ifCond .eq 70, .aload 0, .invokevirtual 196, .ifCond .eq 70, .aload 0, .iconst 1, .invokevirtual 195, .aload 0, .dup, .getfield 800, .iconst 1, .isub, .putfield 800, .aload 0, .dup, .getfield 801, .iconst 1, .isub, .putfield 801, .aload 0, .invokevirtual 168, .aload 0, .iconst 3, .invokevirtual 195, .goto 5]),
  (70, [.return_])]
/-- DriverHostModel.testRead()V -/
def s_200 : List (Nat × List Instr) := [(0, [.aload 0, .iconst 0, .putfield 800, .aload 0, .invokevirtual 171, .istore 1]),
  (10, [.iload 1, .ifCond .eq 114, .aload 0, .invokevirtual 198, .aload 0, .invokevirtual 171, .ifCond .ne 26, .return_]),
  (26, [.aload 0, .invokevirtual 199, .aload 0, .ldc2_w 1111, .invokevirtual 172, .ifCond .eq 45, .iconst 24, .goto 61]),
  (45, [.aload 0, .ldc2_w 423, .invokevirtual 172, .ifCond .eq 60, .iconst 25, .goto 61]),
  (60, [.iconst 0]),
  (61, [.istore 2, .iload 2, .ifCond .eq 70, .iconst 1, .goto 71]),
  (70, [.iconst 0]),
  (71, [.istore 1, .iload 1, .ifCond .ne 79, .goto 10]),
  (79, [.aload 0, .iload 2, .invokestatic 194, .invokevirtual 195, .aload 0, .getfield 796, .aload 0, .getfield 800, .iload 2, .iastore, .aload 0, .dup, .getfield 800, .iconst 1, .iadd, .putfield 800, .aload 0, .invokevirtual 168, .goto 10]),
  (114, [.aload 0, .invokevirtual 171, .ifCond .eq 148, .aload 0, .invokevirtual 196, .ifCond .ne 142, .aload 0, .getfield 803, .ifCond .eq 148, .aload 0, .getfield 791, .ifCond .eq 148]),
  (142, [.aload 0, .iconst 1, .invokevirtual 170, .pop]),
  (148, [.aload 0, .iconst 1, .invokevirtual 195, .return_])]
/-- DriverHostModel.classRead(I)V -/
def s_201 : List (Nat × List Instr) := [(0, [.aload 0, .getfield 770, .iload 1, .aload 0, .invokevirtual 179, .iastore, .aload 0, .getfield 770, .iload 1, .iaload, .iconst (-1), .if_icmp .ne 26, .aload 0, .iconst 1, .invokevirtual 170, .pop]),
  (26, [.aload 0, .invokevirtual 171, .ifCond .ne 34, .return_]),
  (34, [.aload 0, .invokevirtual 168, .aload 0, .iconst 1, .putfield 802, .aload 0, .getfield 770, .iload 1, .iaload, .iconst 3, .if_icmp .ne 57, .aload 0, .invokevirtual 200]),
  (57, [.return_])]
/-- DriverHostModel.storesRead(JIII)V -/
def s_202 : List (Nat × List Instr) := [(0, [.aload 0, .iload 3, .putfield 802]),
  (5, [.aload 0, .lload 1, .invokevirtual 173, .ifCond .eq 56, .aload 0, .iconst 0, .iload 4, .invokevirtual 176, .istore 6, .aload 0, .iconst 61, .invokevirtual 175, .aload 0, .iconst 0, .putfield 800, .aload 0, .invokevirtual 191, .aload 0, .invokevirtual 171, .ifCond .eq 53, .aload 0, .iload 5, .iload 6, .iadd, .invokevirtual 184]),
  (53, [.goto 5]),
  (56, [.return_])]
/-- DriverHostModel.commandClause()V -/
def s_203 : List (Nat × List Instr) := [(0, [.aload 0, .getfield 769, .iconst 11, .iaload, .iconst 8, .if_icmp .ne 18, .aload 0, .iconst 3, .invokevirtual 170, .pop]),
  (18, [.aload 0, .invokevirtual 171, .ifCond .ne 26, .return_]),
  (26, [.aload 0, .invokevirtual 168, .aload 0, .getfield 769, .iconst 11, .iaload, .istore 1, .iconst 8, .iload 1, .iadd, .istore 2, .aload 0, .iconst 0, .putfield 801, .aload 0, .iload 1, .invokevirtual 183, .aload 0, .getfield 776, .iload 2, .aload 0, .getfield 799, .iconst 1200, .isub, .iastore, .aload 0, .iload 2, .invokevirtual 201, .aload 0, .getfield 772, .iload 2, .aload 0, .getfield 799, .iconst 1200, .isub, .iastore, .aload 0, .invokevirtual 171, .ifCond .eq 109, .aload 0, .ldc2_w 400577, .invokevirtual 173, .ifCond .ne 109, .aload 0, .iconst 1, .invokevirtual 170, .pop]),
  (109, [.aload 0, .getfield 771, .iload 2, .aload 0, .iconst 1, .iconst 50, .invokevirtual 176, .iastore, .aload 0, .iconst 2, .putfield 802, .aload 0, .iconst 0, .putfield 800, .aload 0, .ldc2_w 261327161, .invokevirtual 173, .ifCond .eq 146, .aload 0, .invokevirtual 191]),
  (146, [.aload 0, .getfield 773, .iload 2, .aload 0, .getfield 799, .iconst 1200, .isub, .iastore, .aload 0, .ldc2_w 14006, .iconst 3, .iconst 7, .iconst 40, .invokevirtual 202, .aload 0, .getfield 774, .iload 2, .aload 0, .getfield 799, .iconst 1200, .isub, .iastore, .aload 0, .ldc2_w 220309, .iconst 4, .iconst 3, .iconst 50, .invokevirtual 202, .aload 0, .getfield 775, .iload 2, .aload 0, .getfield 799, .iconst 1200, .isub, .iastore, .aload 0, .invokevirtual 171, .ifCond .eq 229, .aload 0, .getfield 769, .iconst 11, .dup2, .iaload, .iconst 1, .iadd, .iastore]),
  (229, [.return_])]
/-- DriverHostModel.clause()V -/
def s_204 : List (Nat × List Instr) := [(0, [.aload 0, .ldc2_w 1384660795, .invokevirtual 172, .ifCond .eq 17, .aload 0, .invokevirtual 203, .goto 207]),
  (17, [.aload 0, .ldc2_w 2232979, .invokevirtual 173, .ifCond .eq 65, .aload 0, .getfield 769, .iconst 12, .aload 0, .iconst 1, .iconst 100, .invokevirtual 176, .iastore, .aload 0, .getfield 769, .iconst 13, .aload 0, .aload 0, .getfield 769, .iconst 12, .iaload, .iconst 1000, .invokevirtual 176, .iastore, .goto 207]),
  (65, [.aload 0, .ldc2_w 60115, .invokevirtual 173, .ifCond .eq 93, .aload 0, .getfield 769, .iconst 14, .aload 0, .iconst 1, .iconst 1000, .invokevirtual 176, .iastore, .goto 207]),
  (93, [.aload 0, .ldc2_w 283616030, .invokevirtual 173, .ifCond .eq 120, .aload 0, .getfield 769, .iconst 15, .aload 0, .iconst 0, .iconst 20, .invokevirtual 176, .iastore, .goto 207]),
  (120, [.aload 0, .ldc2_w 237745544, .invokevirtual 173, .ifCond .eq 147, .aload 0, .getfield 769, .iconst 16, .aload 0, .iconst 1, .iconst 20, .invokevirtual 176, .iastore, .goto 207]),
  (147, [.aload 0, .ldc2_w 3094387, .invokevirtual 173, .ifCond .eq 174, .aload 0, .getfield 769, .iconst 17, .aload 0, .iconst 1, .iconst 20, .invokevirtual 176, .iastore, .goto 207]),
  (174, [.aload 0, .ldc2_w 84273568011, .invokevirtual 173, .ifCond .eq 201, .aload 0, .getfield 769, .iconst 18, .aload 0, .iconst 1, .iconst 50, .invokevirtual 176, .iastore, .goto 207]),
  (201, [.aload 0, .iconst 1, .invokevirtual 170, .pop]),
  (207, [.aload 0, .iconst 59, .invokevirtual 175, .return_])]
/-- DriverHostModel.load(I)I -/
def s_205 : List (Nat × List Instr) := [(0, [.aload 0, .iconst 0, .putfield 768, .aload 0, .iload 1, .i2l, .ldc2_w 0, .aload 0, .getfield 787, .i2l, .invokestatic 153, .iconst 1, .invokevirtual 154, .ifCond .eq 26, .iconst 0, .ireturn]),
  (26, [.aload 0, .iload 1, .invokevirtual 169, .aload 0, .invokevirtual 156, .aload 0, .iconst 0, .putfield 803, .aload 0, .iconst 1200, .putfield 799, .aload 0, .ldc2_w 1813182427, .invokevirtual 173, .ifCond .ne 63, .aload 0, .iconst 1, .invokevirtual 170, .pop]),
  (63, [.aload 0, .getfield 769, .iconst 10, .aload 0, .iconst 1, .iconst 4, .invokevirtual 176, .iastore, .aload 0, .iconst 59, .invokevirtual 175]),
  (82, [.aload 0, .invokevirtual 171, .ifCond .eq 103, .aload 0, .getfield 791, .ifCond .eq 103, .aload 0, .invokevirtual 204, .goto 82]),
  (103, [.aload 0, .invokevirtual 171, .ifCond .ne 118, .iconst (-10), .aload 0, .getfield 794, .isub, .ireturn]),
  (118, [.aload 0, .invokevirtual 158, .aload 0, .getfield 769, .iconst 1, .iaload, .ireturn])]
/-- DriverHostModel.joined(III)I -/
def s_206 : List (Nat × List Instr) := [(0, [.iload 0, .tableswitch 114 20 27 #[48, 59, 70, 114, 81, 94, 106, 110]]),
  (48, [.iload 1, .iload 2, .if_icmp .ge 57, .iconst 1, .goto 58]),
  (57, [.iconst 0]),
  (58, [.ireturn]),
  (59, [.iload 1, .iload 2, .if_icmp .ne 68, .iconst 1, .goto 69]),
  (68, [.iconst 0]),
  (69, [.ireturn]),
  (70, [.iload 1, .iload 2, .if_icmp .le 79, .iconst 1, .goto 80]),
  (79, [.iconst 0]),
  (80, [.ireturn]),
  (81, [.iload 1, .iload 2, .iadd, .iconst 2, .if_icmp .ne 92, .iconst 1, .goto 93]),
  (92, [.iconst 0]),
  (93, [.ireturn]),
  (94, [.iload 1, .iload 2, .iadd, .ifCond .le 104, .iconst 1, .goto 105]),
  (104, [.iconst 0]),
  (105, [.ireturn]),
  (106, [.iload 1, .iload 2, .iadd, .ireturn]),
  (110, [.iload 1, .iload 2, .isub, .ireturn]),
  (114, [.iload 1, .iload 2, .imul, .ireturn])]
/-- DriverHostModel.cut(I)I -/
def s_207 : List (Nat × List Instr) := [(0, [.iload 0, .iconst (65535), .iand, .ireturn])]
/-- DriverHostModel.reckons(I)Z -/
def s_208 : List (Nat × List Instr) := [(0, [.iload 1, .iconst 23, .if_icmp .ne 32, .aload 0, .getfield 797, .aload 0, .getfield 804, .iconst 1, .isub, .iconst 1, .aload 0, .getfield 797, .aload 0, .getfield 804, .iconst 1, .isub, .iaload, .isub, .iastore, .iconst 1, .ret 0]),
  (32, [.iload 1, .i2l, .ldc2_w 20, .ldc2_w 28, .invokestatic 153, .ifCond .ne 48, .iconst 0, .ret 0]),
  (48, [.aload 0, .dup, .getfield 804, .iconst 1, .isub, .putfield 804, .aload 0, .getfield 797, .aload 0, .getfield 804, .iconst 1, .isub, .iload 1, .aload 0, .getfield 797, .aload 0, .getfield 804, .iconst 1, .isub, .iaload, .aload 0, .getfield 797, .aload 0, .getfield 804, .iaload, .invokestatic 206, .iastore, .iconst 1, .ret 0])]
/-- DriverHostModel.factOf([IIIII)I -/
def s_209 : List (Nat × List Instr) := [(0, [.iload 1, .iconst 8, .if_icmp .ge 18, .aload 0, .iconst 48, .iconst 8, .iload 2, .imul, .iadd, .iload 1, .iadd, .iaload, .ireturn]),
  (18, [.iload 1, .iconst 12, .if_icmp .ge 38, .aload 0, .iconst 80, .iconst 4, .iload 2, .imul, .iadd, .iload 1, .iadd, .iconst 8, .isub, .iaload, .ireturn]),
  (38, [.iload 1, .iconst 12, .if_icmp .ne 48, .iload 3, .goto 50]),
  (48, [.iload 4]),
  (50, [.ireturn])]
/-- DriverHostModel.goesThrough([IIIIII)I -/
def s_210 : List (Nat × List Instr) := [(0, [.aload 0, .iconst 0, .putfield 804, .aload 0, .getfield 797, .iconst 0, .iconst 0, .iastore, .iload 2, .istore 7]),
  (15, [.iload 7, .iload 3, .if_icmp .ge 207, .aload 0, .getfield 777, .iload 7, .iaload, .istore 8, .aload 0, .iload 8, .invokevirtual 208, .ifCond .eq 42, .goto 201]),
  (42, [.iload 8, .i2l, .ldc2_w 40, .ldc2_w 47, .invokestatic 153, .ifCond .eq 98, .aload 0, .dup, .getfield 804, .iconst 1, .isub, .putfield 804, .aload 1, .iconst 48, .iconst 8, .iload 4, .imul, .iadd, .iload 8, .iadd, .iconst 40, .isub, .aload 0, .getfield 797, .aload 0, .getfield 804, .iaload, .invokestatic 207, .iastore, .goto 201]),
  (98, [.iload 8, .i2l, .ldc2_w 50, .ldc2_w 53, .invokestatic 153, .ifCond .eq 153, .aload 0, .dup, .getfield 804, .iconst 1, .isub, .putfield 804, .aload 1, .iconst 80, .iconst 4, .iload 4, .imul, .iadd, .iload 8, .iadd, .iconst 50, .isub, .aload 0, .getfield 797, .aload 0, .getfield 804, .iaload, .invokestatic 207, .iastore, .goto 201]),
  (153, [.aload 0, .getfield 797, .aload 0, .getfield 804, .iload 8, .iconst 1000, .if_icmp .lt 178, .iload 8, .iconst 1000, .isub, .goto 190]),
  (178, [.aload 1, .iload 8, .iload 4, .iload 5, .iload 6, .invokestatic 209]),
  (190, [.iastore, .aload 0, .dup, .getfield 804, .iconst 1, .iadd, .putfield 804]),
  (201, [.iinc 7 1, .goto 15]),
  (207, [.aload 0, .getfield 797, .iconst 0, .iaload, .ireturn])]
/-- DriverHostModel.of([III)I -/
def s_211 : List (Nat × List Instr) := [(0, [.aload 0, .iconst 192, .iconst 14, .iload 1, .imul, .iadd, .iload 2, .iadd, .iaload, .ireturn])]
/-- DriverHostModel.sets([IIII)V -/
def s_212 : List (Nat × List Instr) := [(0, [.aload 0, .iconst 192, .iconst 14, .iload 1, .imul, .iadd, .iload 2, .iadd, .iload 3, .iastore, .return_])]
/-- DriverHostModel.isTrue([II)Z -/
def s_213 : List (Nat × List Instr) := [(0, [.aload 1, .iload 2, .iconst 1, .invokestatic 211, .istore 3, .aload 0, .aload 1, .aload 0, .getfield 776, .iload 3, .iaload, .aload 0, .getfield 772, .iload 3, .iaload, .aload 1, .iload 2, .iconst 0, .invokestatic 211, .aload 1, .iload 2, .iconst 2, .invokestatic 211, .iconst 0, .invokevirtual 210, .iconst 1, .if_icmp .ne 45, .iconst 1, .goto 46]),
  (45, [.iconst 0]),
  (46, [.ret 0])]
/-- DriverHostModel.resultOf([II)I -/
def s_214 : List (Nat × List Instr) := [(0, [.aload 1, .iload 2, .iconst 1, .invokestatic 211, .istore 3, .aload 0, .aload 1, .aload 0, .getfield 772, .iload 3, .iaload, .aload 0, .getfield 773, .iload 3, .iaload, .aload 1, .iload 2, .iconst 0, .invokestatic 211, .aload 1, .iload 2, .iconst 2, .invokestatic 211, .iconst 0, .invokevirtual 210, .ireturn])]
/-- DriverHostModel.keepsIn([II)V -/
def s_215 : List (Nat × List Instr) := [(0, [.aload 1, .iload 2, .iconst 1, .invokestatic 211, .istore 3, .aload 0, .aload 1, .aload 0, .getfield 774, .iload 3, .iaload, .aload 0, .getfield 775, .iload 3, .iaload, .aload 1, .iload 2, .iconst 0, .invokestatic 211, .aload 1, .iload 2, .iconst 2, .invokestatic 211, .aload 1, .iload 2, .iconst 8, .invokestatic 211, .invokevirtual 210, .pop, .return_])]
/-- DriverHostModel.notes([IIII)V -/
def s_216 : List (Nat × List Instr) := [(0, [.aload 1, .iconst 3, .iload 2, .iadd, .dup2, .iaload, .iconst 1, .iadd, .iastore, .aload 1, .iconst 2, .iaload, .iconst 200, .if_icmp .ne 60, .iconst 4, .istore 5]),
  (21, [.iload 5, .iconst 800, .if_icmp .ge 53, .aload 1, .iconst 1592, .iload 5, .iadd, .iconst 4, .isub, .aload 1, .iconst 1592, .iload 5, .iadd, .iaload, .iastore, .iinc 5 1, .goto 21]),
  (53, [.aload 1, .iconst 2, .dup2, .iaload, .iconst 1, .isub, .iastore]),
  (60, [.iconst 1592, .iconst 4, .aload 1, .iconst 2, .iaload, .imul, .iadd, .istore 5, .aload 1, .iload 5, .aload 1, .iconst 0, .iaload, .iastore, .aload 1, .iload 5, .iconst 1, .iadd, .iload 2, .iastore, .aload 1, .iload 5, .iconst 2, .iadd, .iload 3, .iastore, .aload 1, .iload 5, .iconst 3, .iadd, .iload 4, .iastore, .aload 1, .iconst 2, .dup2, .iaload, .iconst 1, .iadd, .iastore, .return_])]
/-- DriverHostModel.endsBadly([III)V -/
def s_217 : List (Nat × List Instr) := [(0, [.aload 1, .iload 2, .iconst 0, .invokestatic 211, .istore 4, .aload 1, .iload 2, .iconst 6, .iconst 3, .invokestatic 212, .aload 1, .iload 2, .iconst 7, .iload 3, .invokestatic 212, .aload 1, .iload 2, .iconst 13, .aload 1, .iconst 0, .iaload, .invokestatic 212, .aload 1, .iconst 28, .iload 4, .iadd, .iaload, .iload 2, .if_icmp .ne 53, .aload 1, .iconst 28, .iload 4, .iadd, .iconst (-1), .iastore]),
  (53, [.aload 1, .iconst 32, .iload 4, .iadd, .iaload, .iload 2, .if_icmp .ne 72, .aload 1, .iconst 32, .iload 4, .iadd, .iconst (-1), .iastore]),
  (72, [.aload 0, .aload 1, .iconst 3, .iload 4, .iload 2, .invokevirtual 216, .return_])]
/-- DriverHostModel.snaps([II)V -/
def s_218 : List (Nat × List Instr) := [(0, [.iconst 0, .istore 3]),
  (2, [.iload 3, .iconst 4, .if_icmp .ge 33, .aload 1, .iconst 96, .iconst 4, .iload 2, .imul, .iadd, .iload 3, .iadd, .aload 1, .iconst 80, .iconst 4, .iload 2, .imul, .iadd, .iload 3, .iadd, .iaload, .iastore, .iinc 3 1, .goto 2]),
  (33, [.aload 1, .iconst 44, .iload 2, .iadd, .iconst 0, .iastore, .aload 0, .aload 1, .iconst 6, .iload 2, .iconst (-1), .invokevirtual 216, .return_])]
/-- DriverHostModel.endsWell([III)V -/
def s_219 : List (Nat × List Instr) := [(0, [.aload 1, .iload 2, .iconst 0, .invokestatic 211, .istore 4, .aload 1, .iload 2, .iconst 6, .iconst 2, .invokestatic 212, .aload 1, .iload 2, .iconst 8, .iload 3, .invokestatic 212, .aload 1, .iload 2, .iconst 13, .aload 1, .iconst 0, .iaload, .invokestatic 212, .aload 1, .iconst 32, .iload 4, .iadd, .iconst (-1), .iastore, .aload 0, .aload 1, .iconst 2, .iload 4, .iload 2, .invokevirtual 216, .aload 0, .aload 1, .iload 2, .invokevirtual 215, .aload 1, .iconst 112, .iconst 20, .iload 4, .imul, .iadd, .aload 1, .iconst 44, .iload 4, .iadd, .iaload, .iadd, .iload 2, .iastore, .aload 1, .iconst 44, .iload 4, .iadd, .dup2, .iaload, .iconst 1, .iadd, .iastore, .aload 1, .iconst 44, .iload 4, .iadd, .iaload, .aload 0, .getfield 769, .iconst 7, .iaload, .if_icmp .lt 111, .aload 0, .aload 1, .iload 4, .invokevirtual 218]),
  (111, [.return_])]
/-- DriverHostModel.loses([II)V -/
def s_220 : List (Nat × List Instr) := [(0, [.iconst 0, .istore 2]),
  (2, [.iload 2, .iconst 4, .if_icmp .ge 24, .aload 0, .iconst 80, .iconst 4, .iload 1, .imul, .iadd, .iload 2, .iadd, .iconst 0, .iastore, .iinc 2 1, .goto 2]),
  (24, [.return_])]
/-- DriverHostModel.delayOf(I)I -/
def s_221 : List (Nat × List Instr) := [(0, [.aload 0, .getfield 769, .iconst 2, .iaload, .istore 2, .iconst 1, .istore 3]),
  (9, [.iload 3, .iload 1, .if_icmp .ge 33, .iconst 2, .iload 2, .imul, .aload 0, .getfield 769, .iconst 3, .iaload, .invokestatic 155, .istore 2, .iinc 3 1, .goto 9]),
  (33, [.iload 2, .aload 0, .getfield 769, .iconst 3, .iaload, .invokestatic 155, .ireturn])]
/-- DriverHostModel.crashes([II)V -/
def s_222 : List (Nat × List Instr) := [(0, [.aload 0, .aload 1, .iconst 4, .iload 2, .iconst (-1), .invokevirtual 216, .aload 1, .iconst 20, .iload 2, .iadd, .dup2, .iaload, .iconst 1, .iadd, .iastore, .aload 1, .iload 2, .invokestatic 220, .aload 1, .iconst 32, .iload 2, .iadd, .iaload, .istore 3, .iload 3, .iconst (-1), .if_icmp .eq 75, .aload 1, .iload 3, .iconst 10, .aload 1, .iload 3, .iconst 10, .invokestatic 211, .iconst 1, .iadd, .invokestatic 212, .aload 1, .iload 3, .iconst 10, .invokestatic 211, .aload 0, .getfield 769, .iconst 6, .iaload, .if_icmp .lt 75, .aload 0, .aload 1, .iload 3, .iconst 3, .invokevirtual 217]),
  (75, [.aload 1, .iconst 20, .iload 2, .iadd, .iaload, .aload 0, .getfield 769, .iconst 5, .iaload, .if_icmp .gt 120, .aload 1, .iconst 12, .iload 2, .iadd, .iconst 1, .iastore, .aload 1, .iconst 16, .iload 2, .iadd, .aload 1, .iconst 0, .iaload, .iconst 1, .iadd, .aload 0, .aload 1, .iconst 20, .iload 2, .iadd, .iaload, .invokevirtual 221, .iadd, .iastore, .return_]),
  (120, [.aload 1, .iconst 12, .iload 2, .iadd, .iconst 2, .iastore, .aload 0, .aload 1, .iconst 8, .iload 2, .iconst (-1), .invokevirtual 216, .iconst 0, .istore 4]),
  (139, [.iload 4, .aload 1, .iconst 1, .iaload, .if_icmp .ge 184, .aload 1, .iload 4, .iconst 0, .invokestatic 211, .iload 2, .if_icmp .ne 178, .aload 1, .iload 4, .iconst 6, .invokestatic 211, .iconst 2, .if_icmp .ge 178, .aload 0, .aload 1, .iload 4, .iconst 5, .invokevirtual 217]),
  (178, [.iinc 4 1, .goto 139]),
  (184, [.return_])]
/-- DriverHostModel.decides([III)V -/
def s_223 : List (Nat × List Instr) := [(0, [.aload 0, .getfield 770, .aload 1, .iload 3, .iconst 1, .invokestatic 211, .iaload, .istore 4, .iload 4, .iconst 2, .if_icmp .ne 29, .aload 0, .aload 1, .iload 3, .iconst 2, .invokevirtual 217, .goto 90]),
  (29, [.iload 4, .iconst 3, .if_icmp .ne 59, .aload 0, .aload 1, .iload 3, .invokevirtual 213, .ifCond .eq 59, .aload 0, .aload 1, .iload 3, .aload 0, .aload 1, .iload 3, .invokevirtual 214, .invokevirtual 219, .goto 90]),
  (59, [.aload 1, .iload 3, .iconst 6, .iconst 0, .invokestatic 212, .aload 1, .iconst 28, .iload 2, .iadd, .iload 3, .iastore, .aload 1, .iconst 32, .iload 2, .iadd, .iconst (-1), .iastore, .aload 0, .aload 1, .iconst 7, .iload 2, .iload 3, .invokevirtual 216]),
  (90, [.return_])]
/-- DriverHostModel.restarts([II)V -/
def s_224 : List (Nat × List Instr) := [(0, [.aload 1, .iconst 12, .iload 2, .iadd, .iconst 0, .iastore, .aload 1, .iconst 24, .iload 2, .iadd, .aload 1, .iconst 0, .iaload, .iastore, .aload 0, .aload 1, .iconst 5, .iload 2, .iconst (-1), .invokevirtual 216, .iconst 0, .istore 3]),
  (26, [.iload 3, .iconst 4, .if_icmp .ge 57, .aload 1, .iconst 80, .iconst 4, .iload 2, .imul, .iadd, .iload 3, .iadd, .aload 1, .iconst 96, .iconst 4, .iload 2, .imul, .iadd, .iload 3, .iadd, .iaload, .iastore, .iinc 3 1, .goto 26]),
  (57, [.iconst 0, .istore 3]),
  (59, [.iload 3, .aload 1, .iconst 44, .iload 2, .iadd, .iaload, .if_icmp .ge 91, .aload 0, .aload 1, .aload 1, .iconst 112, .iconst 20, .iload 2, .imul, .iadd, .iload 3, .iadd, .iaload, .invokevirtual 215, .iinc 3 1, .goto 59]),
  (91, [.aload 1, .iconst 32, .iload 2, .iadd, .iaload, .iconst (-1), .if_icmp .eq 113, .aload 0, .aload 1, .iload 2, .aload 1, .iconst 32, .iload 2, .iadd, .iaload, .invokevirtual 223]),
  (113, [.return_])]
/-- DriverHostModel.nextOf([II)I -/
def s_225 : List (Nat × List Instr) := [(0, [.aload 1, .iconst 28, .iload 2, .iadd, .iaload, .iconst (-1), .if_icmp .eq 17, .aload 1, .iconst 28, .iload 2, .iadd, .iaload, .ireturn]),
  (17, [.iconst (-1), .istore 3, .iconst 0, .istore 4]),
  (22, [.iload 4, .aload 1, .iconst 1, .iaload, .if_icmp .ge 82, .aload 1, .iload 4, .iconst 0, .invokestatic 211, .iload 2, .if_icmp .ne 76, .aload 1, .iload 4, .iconst 6, .invokestatic 211, .ifCond .ne 76, .iload 3, .iconst (-1), .if_icmp .eq 73, .aload 1, .iload 4, .iconst 3, .invokestatic 211, .aload 1, .iload 3, .iconst 3, .invokestatic 211, .if_icmp .le 76]),
  (73, [.iload 4, .istore 3]),
  (76, [.iinc 4 1, .goto 22]),
  (82, [.iload 3, .ireturn])]
/-- DriverHostModel.dropsLate([II)V -/
def s_226 : List (Nat × List Instr) := [(0, [.iconst 0, .istore 3]),
  (2, [.iload 3, .aload 1, .iconst 1, .iaload, .if_icmp .ge 82, .aload 1, .iload 3, .iconst 0, .invokestatic 211, .iload 2, .if_icmp .ne 42, .aload 1, .iload 3, .iconst 6, .invokestatic 211, .ifCond .ne 42, .aload 1, .iload 3, .iconst 4, .invokestatic 211, .ifCond .le 42, .iconst 1, .goto 43]),
  (42, [.iconst 0]),
  (43, [.istore 4, .iload 4, .ifCond .eq 76, .aload 1, .iconst 0, .iaload, .aload 1, .iload 3, .iconst 5, .invokestatic 211, .isub, .aload 1, .iload 3, .iconst 4, .invokestatic 211, .if_icmp .lt 76, .aload 0, .aload 1, .iload 3, .iconst 1, .invokevirtual 217]),
  (76, [.iinc 3 1, .goto 2]),
  (82, [.return_])]
/-- DriverHostModel.begins([II)V -/
def s_227 : List (Nat × List Instr) := [(0, [.aload 0, .aload 1, .iload 2, .invokevirtual 225, .istore 3, .iload 3, .iconst (-1), .if_icmp .ne 13, .return_]),
  (13, [.aload 1, .iconst 28, .iload 2, .iadd, .iconst (-1), .iastore, .aload 1, .iconst 32, .iload 2, .iadd, .iload 3, .iastore, .aload 1, .iconst 36, .iload 2, .iadd, .aload 0, .getfield 771, .aload 1, .iload 3, .iconst 1, .invokestatic 211, .iaload, .iastore, .aload 1, .iload 3, .iconst 6, .iconst 1, .invokestatic 212, .aload 0, .aload 1, .iconst 1, .iload 2, .iload 3, .invokevirtual 216, .return_])]
/-- DriverHostModel.isPlanned([III)Z -/
def s_228 : List (Nat × List Instr) := [(0, [.aload 0, .iload 1, .iconst 11, .invokestatic 211, .iload 2, .if_icmp .ne 21, .aload 0, .iload 1, .iconst 12, .invokestatic 211, .ifCond .ne 23]),
  (21, [.iconst 0, .ret 0]),
  (23, [.aload 0, .iload 1, .iconst 12, .aload 0, .iload 1, .iconst 12, .invokestatic 211, .iconst 1, .isub, .invokestatic 212, .iconst 1, .ret 0])]
/-- DriverHostModel.goesOn([II)V -/
def s_229 : List (Nat × List Instr) := [(0, [.aload 1, .iconst 32, .iload 2, .iadd, .iaload, .istore 3, .aload 1, .iconst 36, .iload 2, .iadd, .dup2, .iaload, .iconst 1, .isub, .iastore, .aload 1, .iconst 36, .iload 2, .iadd, .iaload, .ifCond .le 27, .return_]),
  (27, [.aload 1, .iload 3, .iconst 1, .invokestatic 228, .ifCond .eq 43, .aload 0, .aload 1, .iload 2, .invokevirtual 222, .return_]),
  (43, [.aload 1, .iload 3, .iconst 1, .invokestatic 211, .istore 4, .aload 0, .aload 1, .iload 3, .invokevirtual 214, .istore 5, .aload 0, .aload 1, .aload 0, .getfield 773, .iload 4, .iaload, .aload 0, .getfield 774, .iload 4, .iaload, .iload 2, .aload 1, .iload 3, .iconst 2, .invokestatic 211, .iload 5, .invokevirtual 210, .pop, .aload 1, .iload 3, .iconst 9, .aload 1, .iload 3, .iconst 9, .invokestatic 211, .iconst 1, .iadd, .invokestatic 212, .aload 1, .iload 3, .iconst 2, .invokestatic 228, .ifCond .eq 122, .aload 0, .aload 1, .iload 2, .invokevirtual 222, .goto 130]),
  (122, [.aload 0, .aload 1, .iload 3, .iload 5, .invokevirtual 219]),
  (130, [.return_])]
/-- DriverHostModel.ticksOf([II)V -/
def s_230 : List (Nat × List Instr) := [(0, [.aload 1, .iconst 12, .iload 2, .iadd, .iaload, .iconst 1, .if_icmp .ne 28, .aload 1, .iconst 0, .iaload, .aload 1, .iconst 16, .iload 2, .iadd, .iaload, .if_icmp .lt 28, .aload 0, .aload 1, .iload 2, .invokevirtual 224]),
  (28, [.aload 1, .iconst 12, .iload 2, .iadd, .iaload, .iconst 2, .if_icmp .eq 44, .aload 0, .aload 1, .iload 2, .invokevirtual 226]),
  (44, [.aload 1, .iconst 12, .iload 2, .iadd, .iaload, .ifCond .ne 69, .aload 1, .iconst 32, .iload 2, .iadd, .iaload, .iconst (-1), .if_icmp .ne 69, .aload 0, .aload 1, .iload 2, .invokevirtual 227]),
  (69, [.aload 1, .iconst 12, .iload 2, .iadd, .iaload, .ifCond .ne 94, .aload 1, .iconst 32, .iload 2, .iadd, .iaload, .iconst (-1), .if_icmp .eq 94, .aload 0, .aload 1, .iload 2, .invokevirtual 229]),
  (94, [.aload 1, .iconst 12, .iload 2, .iadd, .iaload, .ifCond .eq 104, .return_]),
  (104, [.aload 1, .iconst 0, .iaload, .iconst 1, .iadd, .aload 1, .iconst 24, .iload 2, .iadd, .iaload, .isub, .aload 0, .getfield 769, .iconst 4, .iaload, .if_icmp .lt 132, .aload 1, .iconst 20, .iload 2, .iadd, .iconst 0, .iastore]),
  (132, [.aload 1, .iconst 40, .iload 2, .iadd, .dup2, .iaload, .iconst 1, .iadd, .iastore, .return_])]
/-- DriverHostModel.tick([I)V -/
def s_231 : List (Nat × List Instr) := [(0, [.iconst 0, .istore 2]),
  (2, [.iload 2, .aload 0, .getfield 769, .iconst 0, .iaload, .if_icmp .ge 24, .aload 0, .aload 1, .iload 2, .invokevirtual 230, .iinc 2 1, .goto 2]),
  (24, [.aload 1, .iconst 0, .dup2, .iaload, .iconst 1, .iadd, .iastore, .return_])]
/-- DriverHostModel.isDriver(I)Z -/
def s_232 : List (Nat × List Instr) := [(0, [.iload 1, .i2l, .ldc2_w 0, .aload 0, .getfield 769, .iconst 0, .iaload, .iconst 1, .isub, .i2l, .invokestatic 153, .ret 0])]
/-- DriverHostModel.isCommand(I)Z -/
def s_233 : List (Nat × List Instr) := [(0, [.iload 1, .i2l, .ldc2_w 0, .aload 0, .getfield 769, .iconst 1, .iaload, .iconst 1, .isub, .i2l, .invokestatic 153, .ret 0])]
/-- DriverHostModel.isRequest(I)Z -/
def s_234 : List (Nat × List Instr) := [(0, [.iload 1, .i2l, .ldc2_w 0, .aload 0, .getfield 780, .iconst 1, .iaload, .iconst 1, .isub, .i2l, .invokestatic 153, .ret 0])]
/-- DriverHostModel.driverCount()I -/
def s_235 : List (Nat × List Instr) := [(0, [.aload 0, .iconst 0, .putfield 768, .aload 0, .getfield 769, .iconst 0, .iaload, .ireturn])]
/-- DriverHostModel.commandCount()I -/
def s_236 : List (Nat × List Instr) := [(0, [.aload 0, .iconst 0, .putfield 768, .aload 0, .getfield 769, .iconst 1, .iaload, .ireturn])]
/-- DriverHostModel.requestCount()I -/
def s_237 : List (Nat × List Instr) := [(0, [.aload 0, .iconst 0, .putfield 768, .aload 0, .getfield 780, .iconst 1, .iaload, .ireturn])]
/-- DriverHostModel.clock()I -/
def s_238 : List (Nat × List Instr) := [(0, [.aload 0, .iconst 0, .putfield 768, .aload 0, .getfield 780, .iconst 0, .iaload, .ireturn])]
/-- DriverHostModel.classOf(I)I -/
def s_239 : List (Nat × List Instr) := [(0, [.aload 0, .iconst 0, .putfield 768, .aload 0, .aload 0, .iload 1, .invokevirtual 233, .iconst 1, .invokevirtual 154, .ifCond .eq 20, .iconst 0, .ireturn]),
  (20, [.aload 0, .getfield 770, .iload 1, .iaload, .ireturn])]
/-- DriverHostModel.timeOf(I)I -/
def s_240 : List (Nat × List Instr) := [(0, [.aload 0, .iconst 0, .putfield 768, .aload 0, .aload 0, .iload 1, .invokevirtual 233, .iconst 1, .invokevirtual 154, .ifCond .eq 20, .iconst 0, .ireturn]),
  (20, [.aload 0, .getfield 771, .iload 1, .iaload, .ireturn])]
/-- DriverHostModel.noDriver(I)Z -/
def s_241 : List (Nat × List Instr) := [(0, [.aload 0, .iconst 0, .putfield 768, .aload 0, .aload 0, .iload 1, .invokevirtual 232, .iconst 1, .invokevirtual 154, .ret 0])]
/-- DriverHostModel.driverState(I)I -/
def s_242 : List (Nat × List Instr) := [(0, [.aload 0, .iload 1, .invokevirtual 241, .ifCond .eq 12, .iconst 0, .goto 21]),
  (12, [.aload 0, .getfield 780, .iconst 12, .iload 1, .iadd, .iaload]),
  (21, [.ireturn])]
/-- DriverHostModel.downUntil(I)I -/
def s_243 : List (Nat × List Instr) := [(0, [.aload 0, .iload 1, .invokevirtual 241, .ifCond .eq 10, .iconst 0, .ireturn]),
  (10, [.aload 0, .getfield 780, .iconst 12, .iload 1, .iadd, .iaload, .iconst 1, .if_icmp .ne 35, .aload 0, .getfield 780, .iconst 16, .iload 1, .iadd, .iaload, .goto 36]),
  (35, [.iconst (-1)]),
  (36, [.ireturn])]
/-- DriverHostModel.streak(I)I -/
def s_244 : List (Nat × List Instr) := [(0, [.aload 0, .iload 1, .invokevirtual 241, .ifCond .eq 12, .iconst 0, .goto 21]),
  (12, [.aload 0, .getfield 780, .iconst 20, .iload 1, .iadd, .iaload]),
  (21, [.ireturn])]
/-- DriverHostModel.register(II)I -/
def s_245 : List (Nat × List Instr) := [(0, [.aload 0, .iload 1, .invokevirtual 241, .ifCond .ne 25, .aload 0, .iload 2, .i2l, .ldc2_w 0, .ldc2_w 7, .invokestatic 153, .iconst 1, .invokevirtual 154, .ifCond .eq 27]),
  (25, [.iconst 0, .ireturn]),
  (27, [.aload 0, .getfield 780, .iconst 48, .iconst 8, .iload 1, .imul, .iadd, .iload 2, .iadd, .iaload, .ireturn])]
/-- DriverHostModel.variable(II)I -/
def s_246 : List (Nat × List Instr) := [(0, [.aload 0, .iload 1, .invokevirtual 241, .ifCond .ne 25, .aload 0, .iload 2, .i2l, .ldc2_w 0, .ldc2_w 3, .invokestatic 153, .iconst 1, .invokevirtual 154, .ifCond .eq 27]),
  (25, [.iconst 0, .ireturn]),
  (27, [.aload 0, .getfield 780, .iconst 80, .iconst 4, .iload 1, .imul, .iadd, .iload 2, .iadd, .iaload, .ireturn])]
/-- DriverHostModel.saved(II)I -/
def s_247 : List (Nat × List Instr) := [(0, [.aload 0, .iload 1, .invokevirtual 241, .ifCond .ne 25, .aload 0, .iload 2, .i2l, .ldc2_w 0, .ldc2_w 3, .invokestatic 153, .iconst 1, .invokevirtual 154, .ifCond .eq 27]),
  (25, [.iconst 0, .ireturn]),
  (27, [.aload 0, .getfield 780, .iconst 96, .iconst 4, .iload 1, .imul, .iadd, .iload 2, .iadd, .iaload, .ireturn])]
/-- DriverHostModel.logSize(I)I -/
def s_248 : List (Nat × List Instr) := [(0, [.aload 0, .iload 1, .invokevirtual 241, .ifCond .eq 12, .iconst 0, .goto 21]),
  (12, [.aload 0, .getfield 780, .iconst 44, .iload 1, .iadd, .iaload]),
  (21, [.ireturn])]
/-- DriverHostModel.logged(II)I -/
def s_249 : List (Nat × List Instr) := [(0, [.aload 0, .iload 1, .invokevirtual 241, .ifCond .ne 25, .aload 0, .iload 2, .ifCond .lt 17, .iconst 1, .goto 18]),
  (17, [.iconst 0]),
  (18, [.iconst 1, .invokevirtual 154, .ifCond .eq 27]),
  (25, [.iconst 0, .ireturn]),
  (27, [.iload 2, .aload 0, .getfield 780, .iconst 44, .iload 1, .iadd, .iaload, .if_icmp .ge 57, .aload 0, .getfield 780, .iconst 112, .iconst 20, .iload 1, .imul, .iadd, .iload 2, .iadd, .iaload, .goto 58]),
  (57, [.iconst (-1)]),
  (58, [.ireturn])]
/-- DriverHostModel.inFlight(I)I -/
def s_250 : List (Nat × List Instr) := [(0, [.aload 0, .iload 1, .invokevirtual 241, .ifCond .eq 12, .iconst 0, .goto 21]),
  (12, [.aload 0, .getfield 780, .iconst 32, .iload 1, .iadd, .iaload]),
  (21, [.ireturn])]
/-- DriverHostModel.nextRequest(I)I -/
def s_251 : List (Nat × List Instr) := [(0, [.aload 0, .iload 1, .invokevirtual 241, .ifCond .eq 12, .iconst 0, .goto 21]),
  (12, [.aload 0, .aload 0, .getfield 780, .iload 1, .invokevirtual 225]),
  (21, [.ireturn])]
/-- DriverHostModel.queued(I)I -/
def s_252 : List (Nat × List Instr) := [(0, [.aload 0, .iload 1, .invokevirtual 241, .ifCond .eq 10, .iconst 0, .ireturn]),
  (10, [.iconst 0, .istore 2, .iconst 0, .istore 3]),
  (14, [.iload 3, .aload 0, .getfield 780, .iconst 1, .iaload, .if_icmp .ge 64, .iload 2, .aload 0, .getfield 780, .iload 3, .iconst 0, .invokestatic 211, .iload 1, .if_icmp .ne 55, .aload 0, .getfield 780, .iload 3, .iconst 6, .invokestatic 211, .ifCond .ne 55, .iconst 1, .goto 56]),
  (55, [.iconst 0]),
  (56, [.iadd, .istore 2, .iinc 3 1, .goto 14]),
  (64, [.iload 2, .ireturn])]
/-- DriverHostModel.noRequest(I)Z -/
def s_253 : List (Nat × List Instr) := [(0, [.aload 0, .iconst 0, .putfield 768, .aload 0, .aload 0, .iload 1, .invokevirtual 234, .iconst 1, .invokevirtual 154, .ret 0])]
/-- DriverHostModel.request(II)I -/
def s_254 : List (Nat × List Instr) := [(0, [.aload 0, .iload 1, .invokevirtual 253, .ifCond .ne 25, .aload 0, .iload 2, .i2l, .ldc2_w 0, .ldc2_w 14, .invokestatic 153, .iconst 1, .invokevirtual 154, .ifCond .eq 27]),
  (25, [.iconst 0, .ireturn]),
  (27, [.iload 2, .iconst 11, .if_icmp .ge 43, .aload 0, .getfield 780, .iload 1, .iload 2, .invokestatic 211, .ireturn]),
  (43, [.iload 2, .iconst 11, .if_icmp .le 85, .iload 2, .iconst 14, .if_icmp .ne 73, .aload 0, .getfield 780, .iload 1, .iconst 6, .invokestatic 211, .iconst 2, .if_icmp .ge 73, .iconst (-1), .goto 84]),
  (73, [.aload 0, .getfield 780, .iload 1, .iload 2, .iconst 1, .isub, .invokestatic 211]),
  (84, [.ireturn]),
  (85, [.aload 0, .getfield 780, .iload 1, .iconst 0, .invokestatic 211, .istore 3, .aload 0, .getfield 780, .iconst 12, .iload 3, .iadd, .iaload, .ifCond .ne 132, .aload 0, .getfield 780, .iconst 32, .iload 3, .iadd, .iaload, .iload 1, .if_icmp .ne 132, .aload 0, .getfield 780, .iconst 36, .iload 3, .iadd, .iaload, .goto 133]),
  (132, [.iconst 0]),
  (133, [.ireturn])]
/-- DriverHostModel.recordCount()I -/
def s_255 : List (Nat × List Instr) := [(0, [.aload 0, .iconst 0, .putfield 768, .aload 0, .getfield 780, .iconst 2, .iaload, .ireturn])]
/-- DriverHostModel.record(II)I -/
def s_256 : List (Nat × List Instr) := [(0, [.aload 0, .iconst 0, .putfield 768, .aload 0, .iload 1, .i2l, .ldc2_w 0, .aload 0, .getfield 780, .iconst 2, .iaload, .iconst 1, .isub, .i2l, .invokestatic 153, .ifCond .eq 40, .iload 2, .i2l, .ldc2_w 0, .ldc2_w 3, .invokestatic 153, .ifCond .eq 40, .iconst 1, .goto 41]),
  (40, [.iconst 0]),
  (41, [.iconst 1, .invokevirtual 154, .ifCond .eq 50, .iconst 0, .ireturn]),
  (50, [.aload 0, .getfield 780, .iconst 1592, .iconst 4, .iload 1, .imul, .iadd, .iload 2, .iadd, .iaload, .ireturn])]
/-- DriverHostModel.total(I)I -/
def s_257 : List (Nat × List Instr) := [(0, [.aload 0, .iconst 0, .putfield 768, .iload 1, .i2l, .ldc2_w 0, .ldc2_w 8, .invokestatic 153, .ifCond .eq 28, .aload 0, .getfield 780, .iconst 3, .iload 1, .iadd, .iaload, .goto 29]),
  (28, [.iconst (-1)]),
  (29, [.ireturn])]
/-- DriverHostModel.availability(I)D -/
def s_258 : List (Nat × List Instr) := [(0, [.aload 0, .iload 1, .invokevirtual 241, .ifCond .eq 10, .dconst 0, .dreturn]),
  (10, [.aload 0, .getfield 780, .iconst 0, .iaload, .ifCond .ne 23, .dconst 1, .goto 41]),
  (23, [.aload 0, .getfield 780, .iconst 40, .iload 1, .iadd, .iaload, .i2d, .aload 0, .getfield 780, .iconst 0, .iaload, .i2d, .ddiv]),
  (41, [.dreturn])]
/-- DriverHostModel.meanTime(I)F -/
def s_259 : List (Nat × List Instr) := [(0, [.aload 0, .iload 1, .invokevirtual 241, .ifCond .eq 10, .fconst 0, .freturn]),
  (10, [.iconst 0, .istore 2, .iconst 0, .istore 3, .iconst 0, .istore 4]),
  (17, [.iload 4, .aload 0, .getfield 780, .iconst 1, .iaload, .if_icmp .ge 94, .aload 0, .getfield 780, .iload 4, .iconst 0, .invokestatic 211, .iload 1, .if_icmp .ne 88, .aload 0, .getfield 780, .iload 4, .iconst 6, .invokestatic 211, .iconst 2, .if_icmp .eq 60, .goto 88]),
  (60, [.iload 2, .aload 0, .getfield 780, .iload 4, .iconst 13, .invokestatic 211, .aload 0, .getfield 780, .iload 4, .iconst 5, .invokestatic 211, .isub, .iadd, .istore 2, .iinc 3 1]),
  (88, [.iinc 4 1, .goto 17]),
  (94, [.iload 3, .ifCond .ne 102, .fconst 0, .goto 107]),
  (102, [.iload 2, .i2f, .iload 3, .i2f, .fdiv]),
  (107, [.freturn])]
/-- DriverHostModel.records()V -/
def s_260 : List (Nat × List Instr) := [(0, [.aload 0, .getfield 785, .iconst 10, .if_icmp .ne 52, .iconst 2392, .istore 1]),
  (13, [.iload 1, .iconst 23920, .if_icmp .ge 42, .aload 0, .getfield 783, .iload 1, .iconst 2392, .isub, .aload 0, .getfield 783, .iload 1, .iaload, .iastore, .iinc 1 1, .goto 13]),
  (42, [.aload 0, .dup, .getfield 785, .iconst 1, .isub, .putfield 785]),
  (52, [.iconst 0, .istore 1]),
  (54, [.iload 1, .iconst 2392, .if_icmp .ge 88, .aload 0, .getfield 783, .iconst 2392, .aload 0, .getfield 785, .imul, .iload 1, .iadd, .aload 0, .getfield 780, .iload 1, .iaload, .iastore, .iinc 1 1, .goto 54]),
  (88, [.aload 0, .dup, .getfield 785, .iconst 1, .iadd, .putfield 785, .return_])]
/-- DriverHostModel.submit(IIIII)I -/
def s_261 : List (Nat × List Instr) := [(0, [.aload 0, .iconst 0, .putfield 768, .aload 0, .aload 0, .iload 1, .invokevirtual 232, .ifCond .eq 26, .aload 0, .iload 2, .invokevirtual 233, .ifCond .eq 26, .iconst 1, .goto 27]),
  (26, [.iconst 0]),
  (27, [.iconst 1, .invokevirtual 154, .ifCond .ne 73, .aload 0, .iload 4, .i2l, .ldc2_w 0, .ldc2_w 3, .invokestatic 153, .ifCond .eq 65, .iload 5, .i2l, .ldc2_w 0, .ldc2_w 100000, .invokestatic 153, .ifCond .eq 65, .iconst 1, .goto 66]),
  (65, [.iconst 0]),
  (66, [.iconst 2, .invokevirtual 154, .ifCond .eq 75]),
  (73, [.iconst 0, .ireturn]),
  (75, [.aload 0, .getfield 780, .iconst 12, .iload 1, .iadd, .iaload, .iconst 2, .if_icmp .ne 91, .iconst (-2), .ireturn]),
  (91, [.aload 0, .getfield 780, .iconst 1, .iaload, .istore 6, .iload 6, .iconst 100, .if_icmp .ne 109, .iconst (-3), .ireturn]),
  (109, [.aload 0, .invokevirtual 260, .iconst 0, .istore 7]),
  (116, [.iload 7, .iconst 14, .if_icmp .ge 141, .aload 0, .getfield 780, .iload 6, .iload 7, .iconst 0, .invokestatic 212, .iinc 7 1, .goto 116]),
  (141, [.aload 0, .getfield 780, .iload 6, .iconst 0, .iload 1, .invokestatic 212, .aload 0, .getfield 780, .iload 6, .iconst 1, .iload 2, .invokestatic 212, .aload 0, .getfield 780, .iload 6, .iconst 2, .iload 3, .invokestatic 212, .aload 0, .getfield 780, .iload 6, .iconst 3, .iload 4, .invokestatic 212, .aload 0, .getfield 780, .iload 6, .iconst 4, .iload 5, .invokestatic 212, .aload 0, .getfield 780, .iload 6, .iconst 5, .aload 0, .getfield 780, .iconst 0, .iaload, .invokestatic 212, .aload 0, .getfield 780, .iconst 1, .dup2, .iaload, .iconst 1, .iadd, .iastore, .aload 0, .aload 0, .getfield 780, .iconst 0, .iload 1, .iload 6, .invokevirtual 216, .iload 6, .ireturn])]
/-- DriverHostModel.cancel(I)I -/
def s_262 : List (Nat × List Instr) := [(0, [.aload 0, .iload 1, .invokevirtual 253, .ifCond .eq 10, .iconst 0, .ireturn]),
  (10, [.aload 0, .getfield 780, .iload 1, .iconst 6, .invokestatic 211, .ifCond .eq 26, .iconst (-2), .ireturn]),
  (26, [.aload 0, .invokevirtual 260, .aload 0, .aload 0, .getfield 780, .iload 1, .iconst 4, .invokevirtual 217, .aload 0, .getfield 780, .iconst 0, .iaload, .ireturn])]
/-- DriverHostModel.plan(III)I -/
def s_263 : List (Nat × List Instr) := [(0, [.aload 0, .iload 1, .invokevirtual 253, .ifCond .ne 45, .aload 0, .iload 2, .i2l, .ldc2_w 0, .ldc2_w 2, .invokestatic 153, .ifCond .eq 37, .iload 3, .i2l, .ldc2_w 0, .ldc2_w 20, .invokestatic 153, .ifCond .eq 37, .iconst 1, .goto 38]),
  (37, [.iconst 0]),
  (38, [.iconst 2, .invokevirtual 154, .ifCond .eq 47]),
  (45, [.iconst 0, .ireturn]),
  (47, [.aload 0, .getfield 780, .iload 1, .iconst 6, .invokestatic 211, .iconst 2, .if_icmp .lt 64, .iconst (-2), .ireturn]),
  (64, [.aload 0, .invokevirtual 260, .aload 0, .getfield 780, .iload 1, .iconst 11, .invokestatic 211, .istore 4, .aload 0, .getfield 780, .iload 1, .iconst 11, .iload 2, .invokestatic 212, .aload 0, .getfield 780, .iload 1, .iconst 12, .iload 3, .invokestatic 212, .iload 4, .ireturn])]
/-- DriverHostModel.kill(I)I -/
def s_264 : List (Nat × List Instr) := [(0, [.aload 0, .iload 1, .invokevirtual 241, .ifCond .eq 10, .iconst 0, .ireturn]),
  (10, [.aload 0, .getfield 780, .iconst 12, .iload 1, .iadd, .iaload, .ifCond .eq 25, .iconst (-2), .ireturn]),
  (25, [.aload 0, .invokevirtual 260, .aload 0, .aload 0, .getfield 780, .iload 1, .invokevirtual 222, .aload 0, .getfield 780, .iconst 12, .iload 1, .iadd, .iaload, .ireturn])]
/-- DriverHostModel.replace(I)I -/
def s_265 : List (Nat × List Instr) := [(0, [.aload 0, .iload 1, .invokevirtual 241, .ifCond .eq 10, .iconst 0, .ireturn]),
  (10, [.aload 0, .getfield 780, .iconst 12, .iload 1, .iadd, .iaload, .ifCond .eq 25, .iconst (-2), .ireturn]),
  (25, [.aload 0, .getfield 780, .iconst 32, .iload 1, .iadd, .iaload, .iconst (-1), .if_icmp .eq 41, .iconst (-3), .ireturn]),
  (41, [.aload 0, .invokevirtual 260, .aload 0, .aload 0, .getfield 780, .iload 1, .invokevirtual 218, .aload 0, .getfield 780, .iload 1, .invokestatic 220, .aload 0, .getfield 780, .iconst 12, .iload 1, .iadd, .iconst 1, .iastore, .aload 0, .getfield 780, .iconst 16, .iload 1, .iadd, .aload 0, .getfield 780, .iconst 0, .iaload, .aload 0, .getfield 769, .iconst 8, .iaload, .iadd, .iastore, .aload 0, .getfield 780, .iconst 16, .iload 1, .iadd, .iaload, .ireturn])]
/-- DriverHostModel.takeSnapshot(I)I -/
def s_266 : List (Nat × List Instr) := [(0, [.aload 0, .iload 1, .invokevirtual 241, .ifCond .eq 10, .iconst 0, .ireturn]),
  (10, [.aload 0, .getfield 780, .iconst 12, .iload 1, .iadd, .iaload, .ifCond .eq 25, .iconst (-2), .ireturn]),
  (25, [.aload 0, .invokevirtual 260, .aload 0, .getfield 780, .iconst 44, .iload 1, .iadd, .iaload, .istore 2, .aload 0, .aload 0, .getfield 780, .iload 1, .invokevirtual 218, .iload 2, .ireturn])]
/-- DriverHostModel.poke(III)I -/
def s_267 : List (Nat × List Instr) := [(0, [.aload 0, .iload 1, .invokevirtual 241, .ifCond .ne 42, .aload 0, .iload 2, .i2l, .ldc2_w 0, .ldc2_w 7, .invokestatic 153, .iconst 1, .invokevirtual 154, .ifCond .ne 42, .aload 0, .iload 3, .i2l, .ldc2_w 0, .ldc2_w 65535, .invokestatic 153, .iconst 2, .invokevirtual 154, .ifCond .eq 44]),
  (42, [.iconst 0, .ireturn]),
  (44, [.aload 0, .invokevirtual 260, .aload 0, .getfield 780, .iconst 48, .iconst 8, .iload 1, .imul, .iadd, .iload 2, .iadd, .iaload, .istore 4, .aload 0, .getfield 780, .iconst 48, .iconst 8, .iload 1, .imul, .iadd, .iload 2, .iadd, .iload 3, .iastore, .iload 4, .ireturn])]
/-- DriverHostModel.run(I)I -/
def s_268 : List (Nat × List Instr) := [(0, [.aload 0, .iconst 0, .putfield 768, .aload 0, .iload 1, .i2l, .ldc2_w 0, .ldc2_w 1000, .invokestatic 153, .iconst 1, .invokevirtual 154, .ifCond .eq 24, .iconst 0, .ireturn]),
  (24, [.aload 0, .getfield 780, .iconst 0, .iaload, .iload 1, .iadd, .iconst (1000000), .if_icmp .le 40, .iconst (-4), .ireturn]),
  (40, [.aload 0, .invokevirtual 260, .aload 0, .getfield 780, .iconst 5, .iaload, .istore 2, .iconst 0, .istore 3]),
  (53, [.iload 3, .iload 1, .if_icmp .ge 72, .aload 0, .aload 0, .getfield 780, .invokevirtual 231, .iinc 3 1, .goto 53]),
  (72, [.aload 0, .getfield 780, .iconst 5, .iaload, .iload 2, .isub, .ireturn])]
/-- DriverHostModel.undoCount()I -/
def s_269 : List (Nat × List Instr) := [(0, [.aload 0, .iconst 0, .putfield 768, .aload 0, .getfield 785, .ireturn])]
/-- DriverHostModel.undo()I -/
def s_270 : List (Nat × List Instr) := [(0, [.aload 0, .iconst 0, .putfield 768, .aload 0, .getfield 785, .ifCond .ne 14, .iconst (-1), .ireturn]),
  (14, [.aload 0, .dup, .getfield 785, .iconst 1, .isub, .putfield 785, .iconst 0, .istore 1]),
  (26, [.iload 1, .iconst 2392, .if_icmp .ge 60, .aload 0, .getfield 780, .iload 1, .aload 0, .getfield 783, .iconst 2392, .aload 0, .getfield 785, .imul, .iload 1, .iadd, .iaload, .iastore, .iinc 1 1, .goto 26]),
  (60, [.aload 0, .getfield 785, .ireturn])]
/-- DriverHostModel.saveState()V -/
def s_271 : List (Nat × List Instr) := [(0, [.aload 0, .iconst 0, .putfield 768, .aload 0, .getfield 780, .aload 0, .getfield 782, .invokestatic 159, .aload 0, .iconst 1, .putfield 784, .return_])]
/-- DriverHostModel.restoreState()Z -/
def s_272 : List (Nat × List Instr) := [(0, [.aload 0, .iconst 0, .putfield 768, .aload 0, .getfield 784, .ifCond .ne 14, .iconst 0, .ret 0]),
  (14, [.aload 0, .getfield 782, .aload 0, .getfield 780, .invokestatic 159, .aload 0, .iconst 0, .putfield 785, .iconst 1, .ret 0])]
/-- DriverHostModel.forecast(I)I -/
def s_273 : List (Nat × List Instr) := [(0, [.aload 0, .iload 1, .invokevirtual 253, .ifCond .eq 10, .iconst 0, .ireturn]),
  (10, [.aload 0, .getfield 780, .aload 0, .getfield 781, .invokestatic 159, .iconst 0, .istore 2]),
  (23, [.aload 0, .getfield 781, .iload 1, .iconst 6, .invokestatic 211, .iconst 2, .if_icmp .ge 71, .iload 2, .iconst 1000, .if_icmp .eq 55, .aload 0, .getfield 781, .iconst 0, .iaload, .iconst (1000000), .if_icmp .ne 57]),
  (55, [.iconst (-1), .ireturn]),
  (57, [.aload 0, .aload 0, .getfield 781, .invokevirtual 231, .iinc 2 1, .goto 23]),
  (71, [.iload 2, .ireturn])]
/-- DriverHostModel.bestDelay(I)I -/
def s_274 : List (Nat × List Instr) := [(0, [.aload 0, .iconst 0, .putfield 768, .aload 0, .iload 1, .i2l, .ldc2_w 0, .ldc2_w 200, .invokestatic 153, .ifCond .eq 35, .aload 0, .getfield 780, .iconst 0, .iaload, .iload 1, .iadd, .iconst (1000000), .if_icmp .gt 35, .iconst 1, .goto 36]),
  (35, [.iconst 0]),
  (36, [.iconst 1, .invokevirtual 154, .ifCond .eq 45, .iconst 0, .ireturn]),
  (45, [.aload 0, .getfield 769, .iconst 2, .iaload, .istore 2, .iconst (-1), .istore 3, .iconst (-1), .istore 4, .iconst 1, .istore 5]),
  (60, [.iload 5, .iconst 16, .if_icmp .gt 151, .iload 5, .aload 0, .getfield 769, .iconst 3, .iaload, .if_icmp .gt 151, .aload 0, .getfield 780, .aload 0, .getfield 781, .invokestatic 159, .aload 0, .getfield 769, .iconst 2, .iload 5, .iastore, .iconst 0, .istore 6]),
  (100, [.iload 6, .iload 1, .if_icmp .ge 120, .aload 0, .aload 0, .getfield 781, .invokevirtual 231, .iinc 6 1, .goto 100]),
  (120, [.aload 0, .getfield 781, .iconst 5, .iaload, .iload 4, .if_icmp .gt 134, .goto 145]),
  (134, [.aload 0, .getfield 781, .iconst 5, .iaload, .istore 4, .iload 5, .istore 3]),
  (145, [.iinc 5 1, .goto 60]),
  (151, [.aload 0, .getfield 769, .iconst 2, .iload 2, .iastore, .iload 3, .ireturn])]
/-- DriverHostModel.decision(I)I -/
def s_275 : List (Nat × List Instr) := [(0, [.aload 0, .iload 1, .invokevirtual 253, .ifCond .eq 10, .iconst 0, .ireturn]),
  (10, [.aload 0, .getfield 780, .iload 1, .iconst 6, .invokestatic 211, .iconst 1, .if_icmp .eq 26, .iconst (-1), .ireturn]),
  (26, [.aload 0, .getfield 770, .aload 0, .getfield 780, .iload 1, .iconst 1, .invokestatic 211, .iaload, .istore 2, .iload 2, .iconst 2, .if_icmp .ge 48, .iconst 0, .ireturn]),
  (48, [.iload 2, .iconst 2, .if_icmp .ne 57, .iconst 2, .goto 74]),
  (57, [.aload 0, .aload 0, .getfield 780, .iload 1, .invokevirtual 213, .ifCond .eq 73, .iconst 1, .goto 74]),
  (73, [.iconst 0]),
  (74, [.ireturn])]
/-- DriverHostModel.propertyOf(II)I -/
def s_276 : List (Nat × List Instr) := [(0, [.iload 1, .tableswitch 157 0 9 #[56, 58, 68, 78, 93, 103, 113, 124, 135, 146]]),
  (56, [.iload 2, .ireturn]),
  (58, [.aload 0, .getfield 780, .iload 2, .iconst 0, .invokestatic 211, .ireturn]),
  (68, [.aload 0, .getfield 780, .iload 2, .iconst 1, .invokestatic 211, .ireturn]),
  (78, [.aload 0, .getfield 770, .aload 0, .getfield 780, .iload 2, .iconst 1, .invokestatic 211, .iaload, .ireturn]),
  (93, [.aload 0, .getfield 780, .iload 2, .iconst 2, .invokestatic 211, .ireturn]),
  (103, [.aload 0, .getfield 780, .iload 2, .iconst 3, .invokestatic 211, .ireturn]),
  (113, [.aload 0, .getfield 780, .iload 2, .iconst 6, .invokestatic 211, .ireturn]),
  (124, [.aload 0, .getfield 780, .iload 2, .iconst 7, .invokestatic 211, .ireturn]),
  (135, [.aload 0, .getfield 780, .iload 2, .iconst 8, .invokestatic 211, .ireturn]),
  (146, [.aload 0, .getfield 780, .iload 2, .iconst 9, .invokestatic 211, .ireturn]),
  (157, [.aload 0, .getfield 780, .iload 2, .iconst 10, .invokestatic 211, .ireturn])]
/-- DriverHostModel.holds(I)Z -/
def s_277 : List (Nat × List Instr) := [(0, [.aload 0, .iconst 0, .putfield 804, .iconst 0, .istore 2]),
  (7, [.iload 2, .aload 0, .getfield 799, .if_icmp .ge 79, .aload 0, .getfield 798, .iload 2, .iaload, .istore 3, .aload 0, .iload 3, .invokevirtual 208, .ifCond .eq 33, .goto 73]),
  (33, [.aload 0, .getfield 797, .aload 0, .getfield 804, .iload 3, .iconst 1000, .if_icmp .lt 56, .iload 3, .iconst 1000, .isub, .goto 62]),
  (56, [.aload 0, .iload 3, .iload 1, .invokevirtual 276]),
  (62, [.iastore, .aload 0, .dup, .getfield 804, .iconst 1, .iadd, .putfield 804]),
  (73, [.iinc 2 1, .goto 7]),
  (79, [.aload 0, .getfield 797, .iconst 0, .iaload, .iconst 1, .if_icmp .ne 93, .iconst 1, .goto 94]),
  (93, [.iconst 0]),
  (94, [.ret 0])]
/-- DriverHostModel.query(I)I -/
def s_278 : List (Nat × List Instr) := [(0, [.aload 0, .iconst 0, .putfield 768, .aload 0, .iload 1, .i2l, .ldc2_w 0, .aload 0, .getfield 787, .iconst 200, .invokestatic 155, .i2l, .invokestatic 153, .iconst 1, .invokevirtual 154, .ifCond .eq 32, .iconst 0, .ireturn]),
  (32, [.aload 0, .iload 1, .invokevirtual 169, .aload 0, .iconst 0, .putfield 799, .aload 0, .iconst 0, .putfield 801, .aload 0, .iconst 1, .putfield 803, .aload 0, .ldc2_w 3379448, .invokevirtual 173, .istore 2, .iload 2, .ifCond .ne 80, .aload 0, .ldc2_w 257011, .invokevirtual 173, .ifCond .ne 80, .aload 0, .iconst 1, .invokevirtual 170, .pop]),
  (80, [.aload 0, .invokevirtual 200, .aload 0, .invokevirtual 171, .ifCond .ne 100, .iconst (-1000000000), .aload 0, .getfield 794, .isub, .ireturn]),
  (100, [.iconst 0, .istore 3, .iconst 0, .istore 4]),
  (105, [.iload 4, .aload 0, .getfield 780, .iconst 1, .iaload, .if_icmp .ge 144, .aload 0, .iload 4, .invokevirtual 277, .ifCond .ne 128, .goto 138]),
  (128, [.iload 2, .ifCond .eq 135, .iload 4, .ireturn]),
  (135, [.iinc 3 1]),
  (138, [.iinc 4 1, .goto 105]),
  (144, [.iload 2, .ifCond .eq 152, .iconst (-1), .goto 153]),
  (152, [.iload 3]),
  (153, [.ireturn])]
/-- DriverHostLaw.load(LDriverHost;I[J)I -/
def s_279 : List (Nat × List Instr) := [(0, [.aload 2, .iconst 0, .aload 0, .iload 1, .invokevirtual 107, .i2l, .lastore, .goto 15, .nop]),
  (13, [.iconst 1, .ireturn]),
  (15, [.iconst 0, .ireturn])]
/-- DriverHostLaw.classOf(LDriverHost;I[J)I -/
def s_280 : List (Nat × List Instr) := [(0, [.aload 2, .iconst 0, .aload 0, .iload 1, .invokevirtual 113, .i2l, .lastore, .goto 15, .nop]),
  (13, [.iconst 1, .ireturn]),
  (15, [.iconst 0, .ireturn])]
/-- DriverHostLaw.timeOf(LDriverHost;I[J)I -/
def s_281 : List (Nat × List Instr) := [(0, [.aload 2, .iconst 0, .aload 0, .iload 1, .invokevirtual 114, .i2l, .lastore, .goto 15, .nop]),
  (13, [.iconst 1, .ireturn]),
  (15, [.iconst 0, .ireturn])]
/-- DriverHostLaw.submit(LDriverHost;IIIII[J)I -/
def s_282 : List (Nat × List Instr) := [(0, [.aload 6, .iconst 0, .aload 0, .iload 1, .iload 2, .iload 3, .iload 4, .iload 5, .invokevirtual 115, .i2l, .lastore, .goto 27, .nop]),
  (21, [.iconst 1, .ireturn, .nop]),
  (25, [.iconst 2, .ireturn]),
  (27, [.iconst 0, .ireturn])]
/-- DriverHostLaw.cancel(LDriverHost;I[J)I -/
def s_283 : List (Nat × List Instr) := [(0, [.aload 2, .iconst 0, .aload 0, .iload 1, .invokevirtual 116, .i2l, .lastore, .goto 15, .nop]),
  (13, [.iconst 1, .ireturn]),
  (15, [.iconst 0, .ireturn])]
/-- DriverHostLaw.plan(LDriverHost;III[J)I -/
def s_284 : List (Nat × List Instr) := [(0, [.aload 4, .iconst 0, .aload 0, .iload 1, .iload 2, .iload 3, .invokevirtual 117, .i2l, .lastore, .goto 23, .nop]),
  (17, [.iconst 1, .ireturn, .nop]),
  (21, [.iconst 2, .ireturn]),
  (23, [.iconst 0, .ireturn])]
/-- DriverHostLaw.kill(LDriverHost;I[J)I -/
def s_285 : List (Nat × List Instr) := [(0, [.aload 2, .iconst 0, .aload 0, .iload 1, .invokevirtual 118, .i2l, .lastore, .goto 15, .nop]),
  (13, [.iconst 1, .ireturn]),
  (15, [.iconst 0, .ireturn])]
/-- DriverHostLaw.replace(LDriverHost;I[J)I -/
def s_286 : List (Nat × List Instr) := [(0, [.aload 2, .iconst 0, .aload 0, .iload 1, .invokevirtual 119, .i2l, .lastore, .goto 15, .nop]),
  (13, [.iconst 1, .ireturn]),
  (15, [.iconst 0, .ireturn])]
/-- DriverHostLaw.takeSnapshot(LDriverHost;I[J)I -/
def s_287 : List (Nat × List Instr) := [(0, [.aload 2, .iconst 0, .aload 0, .iload 1, .invokevirtual 120, .i2l, .lastore, .goto 15, .nop]),
  (13, [.iconst 1, .ireturn]),
  (15, [.iconst 0, .ireturn])]
/-- DriverHostLaw.poke(LDriverHost;III[J)I -/
def s_288 : List (Nat × List Instr) := [(0, [.aload 4, .iconst 0, .aload 0, .iload 1, .iload 2, .iload 3, .invokevirtual 121, .i2l, .lastore, .goto 23, .nop]),
  (17, [.iconst 1, .ireturn, .nop]),
  (21, [.iconst 2, .ireturn]),
  (23, [.iconst 0, .ireturn])]
/-- DriverHostLaw.run(LDriverHost;I[J)I -/
def s_289 : List (Nat × List Instr) := [(0, [.aload 2, .iconst 0, .aload 0, .iload 1, .invokevirtual 122, .i2l, .lastore, .goto 15, .nop]),
  (13, [.iconst 1, .ireturn]),
  (15, [.iconst 0, .ireturn])]
/-- DriverHostLaw.driverState(LDriverHost;I[J)I -/
def s_290 : List (Nat × List Instr) := [(0, [.aload 2, .iconst 0, .aload 0, .iload 1, .invokevirtual 123, .i2l, .lastore, .goto 15, .nop]),
  (13, [.iconst 1, .ireturn]),
  (15, [.iconst 0, .ireturn])]
/-- DriverHostLaw.downUntil(LDriverHost;I[J)I -/
def s_291 : List (Nat × List Instr) := [(0, [.aload 2, .iconst 0, .aload 0, .iload 1, .invokevirtual 124, .i2l, .lastore, .goto 15, .nop]),
  (13, [.iconst 1, .ireturn]),
  (15, [.iconst 0, .ireturn])]
/-- DriverHostLaw.streak(LDriverHost;I[J)I -/
def s_292 : List (Nat × List Instr) := [(0, [.aload 2, .iconst 0, .aload 0, .iload 1, .invokevirtual 125, .i2l, .lastore, .goto 15, .nop]),
  (13, [.iconst 1, .ireturn]),
  (15, [.iconst 0, .ireturn])]
/-- DriverHostLaw.register(LDriverHost;II[J)I -/
def s_293 : List (Nat × List Instr) := [(0, [.aload 3, .iconst 0, .aload 0, .iload 1, .iload 2, .invokevirtual 126, .i2l, .lastore, .goto 17, .nop]),
  (15, [.iconst 1, .ireturn]),
  (17, [.iconst 0, .ireturn])]
/-- DriverHostLaw.variable(LDriverHost;II[J)I -/
def s_294 : List (Nat × List Instr) := [(0, [.aload 3, .iconst 0, .aload 0, .iload 1, .iload 2, .invokevirtual 127, .i2l, .lastore, .goto 17, .nop]),
  (15, [.iconst 1, .ireturn]),
  (17, [.iconst 0, .ireturn])]
/-- DriverHostLaw.saved(LDriverHost;II[J)I -/
def s_295 : List (Nat × List Instr) := [(0, [.aload 3, .iconst 0, .aload 0, .iload 1, .iload 2, .invokevirtual 128, .i2l, .lastore, .goto 17, .nop]),
  (15, [.iconst 1, .ireturn]),
  (17, [.iconst 0, .ireturn])]
/-- DriverHostLaw.logSize(LDriverHost;I[J)I -/
def s_296 : List (Nat × List Instr) := [(0, [.aload 2, .iconst 0, .aload 0, .iload 1, .invokevirtual 129, .i2l, .lastore, .goto 15, .nop]),
  (13, [.iconst 1, .ireturn]),
  (15, [.iconst 0, .ireturn])]
/-- DriverHostLaw.logged(LDriverHost;II[J)I -/
def s_297 : List (Nat × List Instr) := [(0, [.aload 3, .iconst 0, .aload 0, .iload 1, .iload 2, .invokevirtual 130, .i2l, .lastore, .goto 17, .nop]),
  (15, [.iconst 1, .ireturn]),
  (17, [.iconst 0, .ireturn])]
/-- DriverHostLaw.inFlight(LDriverHost;I[J)I -/
def s_298 : List (Nat × List Instr) := [(0, [.aload 2, .iconst 0, .aload 0, .iload 1, .invokevirtual 131, .i2l, .lastore, .goto 15, .nop]),
  (13, [.iconst 1, .ireturn]),
  (15, [.iconst 0, .ireturn])]
/-- DriverHostLaw.nextRequest(LDriverHost;I[J)I -/
def s_299 : List (Nat × List Instr) := [(0, [.aload 2, .iconst 0, .aload 0, .iload 1, .invokevirtual 132, .i2l, .lastore, .goto 15, .nop]),
  (13, [.iconst 1, .ireturn]),
  (15, [.iconst 0, .ireturn])]
/-- DriverHostLaw.queued(LDriverHost;I[J)I -/
def s_300 : List (Nat × List Instr) := [(0, [.aload 2, .iconst 0, .aload 0, .iload 1, .invokevirtual 133, .i2l, .lastore, .goto 15, .nop]),
  (13, [.iconst 1, .ireturn]),
  (15, [.iconst 0, .ireturn])]
/-- DriverHostLaw.request(LDriverHost;II[J)I -/
def s_301 : List (Nat × List Instr) := [(0, [.aload 3, .iconst 0, .aload 0, .iload 1, .iload 2, .invokevirtual 134, .i2l, .lastore, .goto 17, .nop]),
  (15, [.iconst 1, .ireturn]),
  (17, [.iconst 0, .ireturn])]
/-- DriverHostLaw.record(LDriverHost;II[J)I -/
def s_302 : List (Nat × List Instr) := [(0, [.aload 3, .iconst 0, .aload 0, .iload 1, .iload 2, .invokevirtual 136, .i2l, .lastore, .goto 17, .nop]),
  (15, [.iconst 1, .ireturn]),
  (17, [.iconst 0, .ireturn])]
/-- DriverHostLaw.availability(LDriverHost;I[D)I -/
def s_303 : List (Nat × List Instr) := [(0, [.aload 2, .iconst 0, .aload 0, .iload 1, .invokevirtual 138, .dastore, .goto 14, .nop]),
  (12, [.iconst 1, .ireturn]),
  (14, [.iconst 0, .ireturn])]
/-- DriverHostLaw.meanTime(LDriverHost;I[D)I -/
def s_304 : List (Nat × List Instr) := [(0, [.aload 2, .iconst 0, .aload 0, .iload 1, .invokevirtual 139, .f2d, .dastore, .goto 15, .nop]),
  (13, [.iconst 1, .ireturn]),
  (15, [.iconst 0, .ireturn])]
/-- DriverHostLaw.forecast(LDriverHost;I[J)I -/
def s_305 : List (Nat × List Instr) := [(0, [.aload 2, .iconst 0, .aload 0, .iload 1, .invokevirtual 140, .i2l, .lastore, .goto 15, .nop]),
  (13, [.iconst 1, .ireturn]),
  (15, [.iconst 0, .ireturn])]
/-- DriverHostLaw.bestDelay(LDriverHost;I[J)I -/
def s_306 : List (Nat × List Instr) := [(0, [.aload 2, .iconst 0, .aload 0, .iload 1, .invokevirtual 141, .i2l, .lastore, .goto 15, .nop]),
  (13, [.iconst 1, .ireturn]),
  (15, [.iconst 0, .ireturn])]
/-- DriverHostLaw.decision(LDriverHost;I[J)I -/
def s_307 : List (Nat × List Instr) := [(0, [.aload 2, .iconst 0, .aload 0, .iload 1, .invokevirtual 143, .i2l, .lastore, .goto 15, .nop]),
  (13, [.iconst 1, .ireturn]),
  (15, [.iconst 0, .ireturn])]
/-- DriverHostLaw.query(LDriverHost;I[J)I -/
def s_308 : List (Nat × List Instr) := [(0, [.aload 2, .iconst 0, .aload 0, .iload 1, .invokevirtual 148, .i2l, .lastore, .goto 15, .nop]),
  (13, [.iconst 1, .ireturn]),
  (15, [.iconst 0, .ireturn])]
/-- DriverHostLaw.law([I)Z -/
def s_309 : List (Nat × List Instr) := [(0, [.new 11, .dup, .invokespecial 104, .astore 1, .new 12, .dup, .invokespecial 152, .astore 2, .iconst 1, .newarray .long, .astore 3, .iconst 1, .newarray .double, .astore 4, .iconst 0, .istore 5]),
  (28, [.iload 5, .aload 0, .ldc_w 100, .iconst 6, .isub, .if_icmp .gt 1470, .aload 0, .iload 5, .iaload, .iconst 63, .iand, .tableswitch 1464 0 41 #[228, 301, 329, 342, 355, 368, 381, 394, 422, 450, 526, 554, 606, 634, 662, 690, 742, 770, 798, 826, 854, 894, 934, 974, 1002, 1042, 1070, 1098, 1126, 1166, 1179, 1219, 1244, 1273, 1302, 1330, 1358, 1386, 1399, 1412, 1423, 1436]]),
  (228, [.aload 1, .aload 0, .iload 5, .iconst 1, .iadd, .iaload, .aload 0, .iload 5, .iconst 2, .iadd, .iaload, .aload 0, .iload 5, .iconst 3, .iadd, .iaload, .aload 0, .iload 5, .iconst 4, .iadd, .iaload, .aload 0, .iload 5, .iconst 5, .iadd, .iaload, .invokevirtual 105, .pop, .aload 2, .aload 0, .iload 5, .iconst 1, .iadd, .iaload, .aload 0, .iload 5, .iconst 2, .iadd, .iaload, .aload 0, .iload 5, .iconst 3, .iadd, .iaload, .aload 0, .iload 5, .iconst 4, .iadd, .iaload, .aload 0, .iload 5, .iconst 5, .iadd, .iaload, .invokevirtual 161, .pop, .goto 1464]),
  (301, [.aload 1, .aload 0, .iload 5, .iconst 1, .iadd, .iaload, .aload 3, .invokestatic 279, .istore 6, .aload 2, .aload 0, .iload 5, .iconst 1, .iadd, .iaload, .invokevirtual 205, .istore 7, .goto 1464]),
  (329, [.aload 1, .invokevirtual 108, .aload 2, .invokevirtual 162, .if_icmp .eq 1464, .iconst 0, .ret 0]),
  (342, [.aload 1, .invokevirtual 109, .pop, .aload 2, .invokevirtual 235, .pop, .goto 1464]),
  (355, [.aload 1, .invokevirtual 110, .pop, .aload 2, .invokevirtual 236, .pop, .goto 1464]),
  (368, [.aload 1, .invokevirtual 111, .pop, .aload 2, .invokevirtual 237, .pop, .goto 1464]),
  (381, [.aload 1, .invokevirtual 112, .pop, .aload 2, .invokevirtual 238, .pop, .goto 1464]),
  (394, [.aload 1, .aload 0, .iload 5, .iconst 1, .iadd, .iaload, .aload 3, .invokestatic 280, .istore 6, .aload 2, .aload 0, .iload 5, .iconst 1, .iadd, .iaload, .invokevirtual 239, .istore 7, .goto 1464]),
  (422, [.aload 1, .aload 0, .iload 5, .iconst 1, .iadd, .iaload, .aload 3, .invokestatic 281, .istore 6, .aload 2, .aload 0, .iload 5, .iconst 1, .iadd, .iaload, .invokevirtual 240, .istore 7, .goto 1464]),
  (450, [.aload 1, .aload 0, .iload 5, .iconst 1, .iadd, .iaload, .aload 0, .iload 5, .iconst 2, .iadd, .iaload, .aload 0, .iload 5, .iconst 3, .iadd, .iaload, .aload 0, .iload 5, .iconst 4, .iadd, .iaload, .aload 0, .iload 5, .iconst 5, .iadd, .iaload, .aload 3, .invokestatic 282, .istore 6, .aload 2, .aload 0, .iload 5, .iconst 1, .iadd, .iaload, .aload 0, .iload 5, .iconst 2, .iadd, .iaload, .aload 0, .iload 5, .iconst 3, .iadd, .iaload, .aload 0, .iload 5, .iconst 4, .iadd, .iaload, .aload 0, .iload 5, .iconst 5, .iadd, .iaload, .invokevirtual 261, .istore 7, .goto 1464]),
  (526, [.aload 1, .aload 0, .iload 5, .iconst 1, .iadd, .iaload, .aload 3, .invokestatic 283, .istore 6, .aload 2, .aload 0, .iload 5, .iconst 1, .iadd, .iaload, .invokevirtual 262, .istore 7, .goto 1464]),
  (554, [.aload 1, .aload 0, .iload 5, .iconst 1, .iadd, .iaload, .aload 0, .iload 5, .iconst 2, .iadd, .iaload, .aload 0, .iload 5, .iconst 3, .iadd, .iaload, .aload 3, .invokestatic 284, .istore 6, .aload 2, .aload 0, .iload 5, .iconst 1, .iadd, .iaload, .aload 0, .iload 5, .iconst 2, .iadd, .iaload, .aload 0, .iload 5, .iconst 3, .iadd, .iaload, .invokevirtual 263, .istore 7, .goto 1464]),
  (606, [.aload 1, .aload 0, .iload 5, .iconst 1, .iadd, .iaload, .aload 3, .invokestatic 285, .istore 6, .aload 2, .aload 0, .iload 5, .iconst 1, .iadd, .iaload, .invokevirtual 264, .istore 7, .goto 1464]),
  (634, [.aload 1, .aload 0, .iload 5, .iconst 1, .iadd, .iaload, .aload 3, .invokestatic 286, .istore 6, .aload 2, .aload 0, .iload 5, .iconst 1, .iadd, .iaload, .invokevirtual 265, .istore 7, .goto 1464]),
  (662, [.aload 1, .aload 0, .iload 5, .iconst 1, .iadd, .iaload, .aload 3, .invokestatic 287, .istore 6, .aload 2, .aload 0, .iload 5, .iconst 1, .iadd, .iaload, .invokevirtual 266, .istore 7, .goto 1464]),
  (690, [.aload 1, .aload 0, .iload 5, .iconst 1, .iadd, .iaload, .aload 0, .iload 5, .iconst 2, .iadd, .iaload, .aload 0, .iload 5, .iconst 3, .iadd, .iaload, .aload 3, .invokestatic 288, .istore 6, .aload 2, .aload 0, .iload 5, .iconst 1, .iadd, .iaload, .aload 0, .iload 5, .iconst 2, .iadd, .iaload, .aload 0, .iload 5, .iconst 3, .iadd, .iaload, .invokevirtual 267, .istore 7, .goto 1464]),
  (742, [.aload 1, .aload 0, .iload 5, .iconst 1, .iadd, .iaload, .aload 3, .invokestatic 289, .istore 6, .aload 2, .aload 0, .iload 5, .iconst 1, .iadd, .iaload, .invokevirtual 268, .istore 7, .goto 1464]),
  (770, [.aload 1, .aload 0, .iload 5, .iconst 1, .iadd, .iaload, .aload 3, .invokestatic 290, .istore 6, .aload 2, .aload 0, .iload 5, .iconst 1, .iadd, .iaload, .invokevirtual 242, .istore 7, .goto 1464]),
  (798, [.aload 1, .aload 0, .iload 5, .iconst 1, .iadd, .iaload, .aload 3, .invokestatic 291, .istore 6, .aload 2, .aload 0, .iload 5, .iconst 1, .iadd, .iaload, .invokevirtual 243, .istore 7, .goto 1464]),
  (826, [.aload 1, .aload 0, .iload 5, .iconst 1, .iadd, .iaload, .aload 3, .invokestatic 292, .istore 6, .aload 2, .aload 0, .iload 5, .iconst 1, .iadd, .iaload, .invokevirtual 244, .istore 7, .goto 1464]),
  (854, [.aload 1, .aload 0, .iload 5, .iconst 1, .iadd, .iaload, .aload 0, .iload 5, .iconst 2, .iadd, .iaload, .aload 3, .invokestatic 293, .istore 6, .aload 2, .aload 0, .iload 5, .iconst 1, .iadd, .iaload, .aload 0, .iload 5, .iconst 2, .iadd, .iaload, .invokevirtual 245, .istore 7, .goto 1464]),
  (894, [.aload 1, .aload 0, .iload 5, .iconst 1, .iadd, .iaload, .aload 0, .iload 5, .iconst 2, .iadd, .iaload, .aload 3, .invokestatic 294, .istore 6, .aload 2, .aload 0, .iload 5, .iconst 1, .iadd, .iaload, .aload 0, .iload 5, .iconst 2, .iadd, .iaload, .invokevirtual 246, .istore 7, .goto 1464]),
  (934, [.aload 1, .aload 0, .iload 5, .iconst 1, .iadd, .iaload, .aload 0, .iload 5, .iconst 2, .iadd, .iaload, .aload 3, .invokestatic 295, .istore 6, .aload 2, .aload 0, .iload 5, .iconst 1, .iadd, .iaload, .aload 0, .iload 5, .iconst 2, .iadd, .iaload, .invokevirtual 247, .istore 7, .goto 1464]),
  (974, [.aload 1, .aload 0, .iload 5, .iconst 1, .iadd, .iaload, .aload 3, .invokestatic 296, .istore 6, .aload 2, .aload 0, .iload 5, .iconst 1, .iadd, .iaload, .invokevirtual 248, .istore 7, .goto 1464]),
  (1002, [.aload 1, .aload 0, .iload 5, .iconst 1, .iadd, .iaload, .aload 0, .iload 5, .iconst 2, .iadd, .iaload, .aload 3, .invokestatic 297, .istore 6, .aload 2, .aload 0, .iload 5, .iconst 1, .iadd, .iaload, .aload 0, .iload 5, .iconst 2, .iadd, .iaload, .invokevirtual 249, .istore 7, .goto 1464]),
  (1042, [.aload 1, .aload 0, .iload 5, .iconst 1, .iadd, .iaload, .aload 3, .invokestatic 298, .istore 6, .aload 2, .aload 0, .iload 5, .iconst 1, .iadd, .iaload, .invokevirtual 250, .istore 7, .goto 1464]),
  (1070, [.aload 1, .aload 0, .iload 5, .iconst 1, .iadd, .iaload, .aload 3, .invokestatic 299, .istore 6, .aload 2, .aload 0, .iload 5, .iconst 1, .iadd, .iaload, .invokevirtual 251, .istore 7, .goto 1464]),
  (1098, [.aload 1, .aload 0, .iload 5, .iconst 1, .iadd, .iaload, .aload 3, .invokestatic 300, .istore 6, .aload 2, .aload 0, .iload 5, .iconst 1, .iadd, .iaload, .invokevirtual 252, .istore 7, .goto 1464]),
  (1126, [.aload 1, .aload 0, .iload 5, .iconst 1, .iadd, .iaload, .aload 0, .iload 5, .iconst 2, .iadd, .iaload, .aload 3, .invokestatic 301, .istore 6, .aload 2, .aload 0, .iload 5, .iconst 1, .iadd, .iaload, .aload 0, .iload 5, .iconst 2, .iadd, .iaload, .invokevirtual 254, .istore 7, .goto 1464]),
  (1166, [.aload 1, .invokevirtual 135, .pop, .aload 2, .invokevirtual 255, .pop, .goto 1464]),
  (1179, [.aload 1, .aload 0, .iload 5, .iconst 1, .iadd, .iaload, .aload 0, .iload 5, .iconst 2, .iadd, .iaload, .aload 3, .invokestatic 302, .istore 6, .aload 2, .aload 0, .iload 5, .iconst 1, .iadd, .iaload, .aload 0, .iload 5, .iconst 2, .iadd, .iaload, .invokevirtual 256, .istore 7, .goto 1464]),
  (1219, [.aload 1, .aload 0, .iload 5, .iconst 1, .iadd, .iaload, .invokevirtual 137, .pop, .aload 2, .aload 0, .iload 5, .iconst 1, .iadd, .iaload, .invokevirtual 257, .pop, .goto 1464]),
  (1244, [.aload 1, .aload 0, .iload 5, .iconst 1, .iadd, .iaload, .aload 4, .invokestatic 303, .istore 6, .aload 2, .aload 0, .iload 5, .iconst 1, .iadd, .iaload, .invokevirtual 258, .dstore 7, .goto 1464]),
  (1273, [.aload 1, .aload 0, .iload 5, .iconst 1, .iadd, .iaload, .aload 4, .invokestatic 304, .istore 6, .aload 2, .aload 0, .iload 5, .iconst 1, .iadd, .iaload, .invokevirtual 259, .fstore 7, .goto 1464]),
  (1302, [.aload 1, .aload 0, .iload 5, .iconst 1, .iadd, .iaload, .aload 3, .invokestatic 305, .istore 6, .aload 2, .aload 0, .iload 5, .iconst 1, .iadd, .iaload, .invokevirtual 273, .istore 7, .goto 1464]),
  (1330, [.aload 1, .aload 0, .iload 5, .iconst 1, .iadd, .iaload, .aload 3, .invokestatic 306, .istore 6, .aload 2, .aload 0, .iload 5, .iconst 1, .iadd, .iaload, .invokevirtual 274, .istore 7, .goto 1464]),
  (1358, [.aload 1, .aload 0, .iload 5, .iconst 1, .iadd, .iaload, .aload 3, .invokestatic 307, .istore 6, .aload 2, .aload 0, .iload 5, .iconst 1, .iadd, .iaload, .invokevirtual 275, .istore 7, .goto 1464]),
  (1386, [.aload 1, .invokevirtual 144, .pop, .aload 2, .invokevirtual 269, .pop, .goto 1464]),
  (1399, [.aload 1, .invokevirtual 145, .pop, .aload 2, .invokevirtual 270, .pop, .goto 1464]),
  (1412, [.aload 1, .invokevirtual 146, .aload 2, .invokevirtual 271, .goto 1464]),
  (1423, [.aload 1, .invokevirtual 147, .pop, .aload 2, .invokevirtual 272, .pop, .goto 1464]),
  (1436, [.aload 1, .aload 0, .iload 5, .iconst 1, .iadd, .iaload, .aload 3, .invokestatic 308, .istore 6, .aload 2, .aload 0, .iload 5, .iconst 1, .iadd, .iaload, .invokevirtual 278, .istore 7, .goto 1464]),
  (1464, [.iinc 5 6, .goto 28]),
  (1470, [.iconst 1, .ret 0])]
def p_segs : List (List (Nat × List Instr)) := [s_0, s_1, s_2, s_3, s_4, s_5, s_6, s_7, s_8, s_9, s_10, s_11, s_12, s_13, s_14, s_15, s_16, s_17, s_18, s_19, s_20, s_21, s_22, s_23, s_24, s_25, s_26, s_27, s_28, s_29, s_30, s_31, s_32, s_33, s_34, s_35, s_36, s_37, s_38, s_39, s_40, s_41, s_42, s_43, s_44, s_45, s_46, s_47, s_48, s_49, s_50, s_51, s_52, s_53, s_54, s_55, s_56, s_57, s_58, s_59, s_60, s_61, s_62, s_63, s_64, s_65, s_66, s_67, s_68, s_69, s_70, s_71, s_72, s_73, s_74, s_75, s_76, s_77, s_78, s_79, s_80, s_81, s_82, s_83, s_84, s_85, s_86, s_87, s_88, s_89, s_90, s_91, s_92, s_93, s_94, s_95, s_96, s_97, s_98, s_99, s_100, s_101, s_102, s_103, s_104, s_105, s_106, s_107, s_108, s_109, s_110, s_111, s_112, s_113, s_114, s_115, s_116, s_117, s_118, s_119, s_120, s_121, s_122, s_123, s_124, s_125, s_126, s_127, s_128, s_129, s_130, s_131, s_132, s_133, s_134, s_135, s_136, s_137, s_138, s_139, s_140, s_141, s_142, s_143, s_144, s_145, s_146, s_147, s_148, s_149, s_150, s_151, s_152, s_153, s_154, s_155, s_156, s_157, s_158, s_159, s_160, s_161, s_162, s_163, s_164, s_165, s_166, s_167, s_168, s_169, s_170, s_171, s_172, s_173, s_174, s_175, s_176, s_177, s_178, s_179, s_180, s_181, s_182, s_183, s_184, s_185, s_186, s_187, s_188, s_189, s_190, s_191, s_192, s_193, s_194, s_195, s_196, s_197, s_198, s_199, s_200, s_201, s_202, s_203, s_204, s_205, s_206, s_207, s_208, s_209, s_210, s_211, s_212, s_213, s_214, s_215, s_216, s_217, s_218, s_219, s_220, s_221, s_222, s_223, s_224, s_225, s_226, s_227, s_228, s_229, s_230, s_231, s_232, s_233, s_234, s_235, s_236, s_237, s_238, s_239, s_240, s_241, s_242, s_243, s_244, s_245, s_246, s_247, s_248, s_249, s_250, s_251, s_252, s_253, s_254, s_255, s_256, s_257, s_258, s_259, s_260, s_261, s_262, s_263, s_264, s_265, s_266, s_267, s_268, s_269, s_270, s_271, s_272, s_273, s_274, s_275, s_276, s_277, s_278, s_279, s_280, s_281, s_282, s_283, s_284, s_285, s_286, s_287, s_288, s_289, s_290, s_291, s_292, s_293, s_294, s_295, s_296, s_297, s_298, s_299, s_300, s_301, s_302, s_303, s_304, s_305, s_306, s_307, s_308, s_309]
def p_nas : List Nat := [2, 3, 4, 2, 3, 1, 2, 2, 2, 2, 2, 2, 3, 3, 2, 2, 1, 1, 1, 1, 1, 2, 2, 1, 2, 5, 3, 2, 2, 2, 2, 4, 1, 1, 2, 2, 3, 1, 1, 2, 2, 4, 1, 1, 1, 1, 1, 1, 1, 1, 1, 2, 4, 2, 1, 1, 2, 3, 2, 3, 3, 1, 2, 3, 3, 1, 1, 1, 1, 1, 1, 1, 2, 2, 1, 2, 3, 2, 2, 2, 2, 1, 3, 2, 2, 2, 2, 2, 2, 2, 3, 3, 3, 3, 4, 2, 2, 2, 2, 2, 3, 4, 3, 4, 1, 6, 2, 2, 1, 1, 1, 1, 1, 2, 2, 6, 2, 4, 2, 2, 2, 4, 2, 2, 2, 2, 3, 3, 3, 2, 3, 2, 2, 2, 3, 1, 3, 2, 2, 2, 2, 2, 1, 2, 1, 1, 1, 1, 2, 2, 2, 3, 1, 3, 3, 2, 1, 1, 1, 2, 2, 6, 1, 2, 1, 1, 1, 1, 1, 2, 2, 1, 2, 2, 2, 2, 3, 1, 1, 1, 1, 1, 2, 2, 2, 2, 1, 1, 3, 2, 1, 1, 1, 1, 1, 2, 1, 1, 1, 1, 1, 2, 5, 1, 1, 2, 3, 1, 2, 5, 7, 3, 4, 3, 3, 3, 5, 4, 3, 4, 2, 2, 3, 4, 3, 3, 3, 3, 3, 3, 3, 2, 2, 2, 2, 1, 1, 1, 1, 2, 2, 2, 2, 2, 2, 3, 3, 3, 2, 3, 2, 2, 2, 2, 3, 1, 3, 2, 2, 2, 1, 6, 2, 4, 2, 2, 2, 4, 2, 1, 1, 1, 1, 2, 2, 2, 3, 2, 2, 3, 3, 3, 7, 3, 5, 3, 3, 3, 5, 3, 3, 3, 3, 4, 4, 4, 3, 4, 3, 3, 3, 4, 4, 3, 3, 3, 3, 3, 3, 1]
def p_nls : List Nat := [2, 3, 8, 2, 3, 1, 2, 2, 2, 2, 2, 2, 3, 3, 2, 2, 2, 1, 1, 1, 1, 3, 3, 1, 2, 6, 4, 2, 2, 3, 2, 4, 2, 1, 2, 2, 4, 2, 2, 3, 3, 6, 2, 2, 2, 1, 2, 2, 3, 2, 1, 2, 4, 2, 1, 1, 2, 3, 2, 3, 3, 3, 3, 3, 5, 1, 1, 1, 1, 1, 1, 1, 2, 2, 1, 2, 4, 3, 3, 2, 2, 1, 4, 4, 2, 4, 5, 5, 4, 6, 4, 5, 4, 4, 4, 2, 2, 2, 4, 4, 4, 4, 3, 7, 1, 6, 3, 3, 1, 1, 1, 1, 1, 2, 2, 8, 3, 6, 3, 3, 4, 6, 3, 2, 3, 2, 3, 3, 3, 2, 4, 2, 2, 2, 3, 1, 3, 2, 3, 3, 5, 7, 1, 3, 1, 1, 1, 1, 3, 5, 4, 3, 1, 6, 3, 2, 2, 3, 2, 3, 3, 6, 1, 2, 1, 1, 1, 1, 1, 2, 2, 1, 3, 3, 2, 2, 4, 1, 1, 1, 1, 1, 3, 3, 2, 2, 2, 1, 3, 3, 1, 4, 2, 1, 1, 2, 2, 1, 2, 1, 3, 2, 7, 3, 1, 2, 3, 1, 2, 5, 9, 3, 4, 4, 4, 4, 6, 5, 4, 5, 3, 4, 5, 5, 4, 5, 5, 4, 3, 6, 3, 3, 2, 2, 2, 1, 1, 1, 1, 2, 2, 2, 2, 2, 2, 3, 3, 3, 2, 3, 2, 2, 4, 2, 4, 1, 3, 2, 2, 5, 2, 8, 2, 5, 2, 2, 3, 5, 4, 1, 2, 1, 1, 3, 7, 3, 3, 4, 5, 4, 4, 4, 8, 4, 6, 4, 4, 4, 6, 4, 4, 4, 4, 5, 5, 5, 4, 5, 4, 4, 4, 5, 5, 4, 4, 4, 4, 4, 4, 9]
def p_rcs : List Nat := [0, 0, 0, 999, 999, 1, 2, 2, 2, 2, 2, 2, 2, 2, 2, 2, 2, 2, 2, 3, 3, 3, 3, 4, 4, 4, 4, 4, 5, 5, 5, 6, 6, 6, 6, 6, 6, 6, 6, 6, 6, 6, 6, 6, 6, 6, 6, 6, 6, 6, 6, 7, 7, 7, 7, 7, 7, 7, 7, 7, 8, 8, 8, 8, 8, 999, 999, 8, 8, 8, 8, 8, 8, 8, 8, 8, 8, 10, 10, 10, 10, 10, 10, 10, 10, 10, 10, 10, 10, 10, 10, 10, 10, 10, 10, 10, 10, 10, 10, 10, 10, 10, 10, 10, 11, 11, 11, 11, 11, 11, 11, 11, 11, 11, 11, 11, 11, 11, 11, 11, 11, 11, 11, 11, 11, 11, 11, 11, 11, 11, 11, 11, 11, 11, 11, 11, 11, 11, 11, 11, 11, 11, 11, 11, 11, 11, 11, 11, 11, 11, 11, 999, 12, 999, 12, 999, 12, 999, 12, 999, 12, 12, 12, 12, 999, 999, 12, 12, 12, 12, 12, 12, 12, 12, 12, 12, 12, 12, 12, 12, 12, 12, 12, 12, 12, 12, 12, 999, 12, 12, 12, 12, 12, 12, 999, 12, 12, 12, 12, 12, 12, 12, 12, 12, 12, 12, 999, 999, 12, 999, 12, 999, 999, 12, 12, 12, 12, 12, 12, 12, 999, 12, 12, 12, 12, 12, 12, 12, 999, 12, 12, 12, 12, 12, 12, 12, 12, 12, 12, 12, 12, 12, 12, 12, 12, 12, 12, 12, 12, 12, 12, 12, 12, 12, 12, 12, 12, 12, 12, 12, 12, 12, 12, 12, 12, 12, 12, 12, 12, 12, 12, 12, 12, 12, 12, 12, 12, 12, 12, 999, 999, 999, 999, 999, 999, 999, 999, 999, 999, 999, 999, 999, 999, 999, 999, 999, 999, 999, 999, 999, 999, 999, 999, 999, 999, 999, 999, 999, 999, 999]
def p_fks : List (List Nat) := [[1, 1, 0, 1], [0, 0, 0, 0, 0, 0, 0, 0], [0, 0, 0, 0, 0, 1, 1, 1, 0, 0, 0, 0, 0, 0, 0, 0], [1, 0, 0], [1, 1, 1, 1, 1, 0, 0], [0, 0, 1, 0, 0, 0, 0, 0, 0, 0, 1], [1, 3, 1, 1, 3, 0, 0], [0, 0, 0, 0, 0, 0, 0, 0, 0, 0, 0, 0, 0, 0, 0, 0], [1, 0, 1, 1, 1, 1, 1, 0, 0, 0, 0], [], [1, 0, 0, 0, 1, 1, 1], [1, 0, 0, 1, 1, 1, 3, 1], [0, 1, 1, 1, 1, 1, 1, 1, 1, 1, 1, 1, 1, 1, 1, 1, 3, 0, 1, 0, 0, 0, 0, 0, 0, 2, 0, 0, 1, 1, 1, 0, 0, 0, 0, 3, 0]]
def p_nfs : List Nat := [4, 8, 16, 3, 7, 11, 7, 16, 11, 0, 7, 8, 37]
def p_hds : List (Nat × Nat × Nat × Nat) := [(279, 1, 3, 13), (280, 0, 3, 13), (281, 0, 3, 13), (282, 0, 7, 21), (282, 1, 7, 25), (283, 0, 3, 13), (284, 0, 5, 17), (284, 1, 5, 21), (285, 0, 3, 13), (286, 0, 3, 13), (287, 0, 3, 13), (288, 0, 5, 17), (288, 1, 5, 21), (289, 1, 3, 13), (290, 0, 3, 13), (291, 0, 3, 13), (292, 0, 3, 13), (293, 0, 4, 15), (294, 0, 4, 15), (295, 0, 4, 15), (296, 0, 3, 13), (297, 0, 4, 15), (298, 0, 3, 13), (299, 0, 3, 13), (300, 0, 3, 13), (301, 0, 4, 15), (302, 0, 4, 15), (303, 0, 3, 12), (304, 0, 3, 13), (305, 0, 3, 13), (306, 1, 3, 13), (307, 0, 3, 13), (308, 1, 3, 13)]
def p_hhs : List (List (Nat × Nat × Nat × Nat)) := [[], [], [], [], [], [], [], [], [], [], [], [], [], [], [], [], [], [], [], [], [], [], [], [], [], [], [], [], [], [], [], [], [], [], [], [], [], [], [], [], [], [], [], [], [], [], [], [], [], [], [], [], [], [], [], [], [], [], [], [], [], [], [], [], [], [], [], [], [], [], [], [], [], [], [], [], [], [], [], [], [], [], [], [], [], [], [], [], [], [], [], [], [], [], [], [], [], [], [], [], [], [], [], [], [], [], [], [], [], [], [], [], [], [], [], [], [], [], [], [], [], [], [], [], [], [], [], [], [], [], [], [], [], [], [], [], [], [], [], [], [], [], [], [], [], [], [], [], [], [], [], [], [], [], [], [], [], [], [], [], [], [], [], [], [], [], [], [], [], [], [], [], [], [], [], [], [], [], [], [], [], [], [], [], [], [], [], [], [], [], [], [], [], [], [], [], [], [], [], [], [], [], [], [], [], [], [], [], [], [], [], [], [], [], [], [], [], [], [], [], [], [], [], [], [], [], [], [], [], [], [], [], [], [], [], [], [], [], [], [], [], [], [], [], [], [], [], [], [], [], [], [], [], [], [], [], [], [], [], [], [], [], [], [], [], [], [], [], [], [], [], [], [], [], [], [], [], [], [], [(0, 9, 12, 13)], [(0, 9, 12, 18)], [(0, 9, 12, 18)], [(0, 16, 19, 18), (0, 16, 23, 13)], [(0, 9, 12, 18)], [(0, 12, 15, 18), (0, 12, 19, 13)], [(0, 9, 12, 18)], [(0, 9, 12, 18)], [(0, 9, 12, 18)], [(0, 12, 15, 18), (0, 12, 19, 13)], [(0, 9, 12, 13)], [(0, 9, 12, 18)], [(0, 9, 12, 18)], [(0, 9, 12, 18)], [(0, 10, 13, 18)], [(0, 10, 13, 18)], [(0, 10, 13, 18)], [(0, 9, 12, 18)], [(0, 10, 13, 18)], [(0, 9, 12, 18)], [(0, 9, 12, 18)], [(0, 9, 12, 18)], [(0, 10, 13, 18)], [(0, 10, 13, 18)], [(0, 8, 11, 18)], [(0, 9, 12, 18)], [(0, 9, 12, 18)], [(0, 9, 12, 13)], [(0, 9, 12, 18)], [(0, 9, 12, 13)], []]
def p_ys : List MethodName := [yX0_init, yX0_add, yX0_execute, yX0_cellAt, yX0_join, yX1_init, yX2_init, yX2_copyFrom, yX2_registerAt, yX2_variableAt, yX2_snapshotAt, yX2_logAt, yX2_store, yX2_present, yX2_addToLog, yX2_goDown, yX2_clearVariables, yX2_saveVariables, yX2_restoreVariables, yX3_init, yX3_clear, yX3_remember, yX3_takeBack, yX4_init, yX4_copyFrom, yX4_add, yX4_valueAt, yX4_totalOf, yX5_init, yX5_commandAt, yX5_addCommand, yX6_init, yX6_readText, yX6_readQuery, yX6_takeWord, yX6_takeSign, yX6_takeNumber, yX6_readClause, yX6_readCommand, yX6_readName, yX6_readClass, yX6_readStores, yX6_readTest, yX6_readConjunction, yX6_readFactor, yX6_opens, yX6_takeComparison, yX6_readProperty, yX6_readSum, yX6_readProduct, yX6_readOperand, yX7_init, yX7_startAnew, yX7_copyFrom, yX7_isOver, yX7_deadline, yX7_takesCrash, yX7_end, yX7_valueOf, yX7_propertyOf, yX8_init, yX8_scan, yX8_endOf, yX8_add, yX8_numberOf, yX8_isLetter, yX8_isDigit, yX8_advance, yX8_atEnd, yX8_word, yX8_number, yX8_isNumber, yX8_isSign, yX8_isWord, yX8_isName, yX8_refuse, yX8_areSame, yX10_init, yX10_copyFrom, yX10_driverAt, yX10_requestAt, yX10_completions, yX10_addRequest, yX10_pass, yX10_step, yX10_restart, yX10_decide, yX10_failLate, yX10_begin, yX10_nextOf, yX10_work, yX10_doEffect, yX10_resultNow, yX10_doKeepings, yX10_complete, yX10_snapshot, yX10_crash, yX10_strike, yX10_die, yX10_delayFor, yX10_fail, yX10_enqueue, yX10_leaveQueue, yX10_matches, yX11_init, yX11_feed, yX11_append, yX11_load, yX11_errorPosition, yX11_driverCount, yX11_commandCount, yX11_requestCount, yX11_clock, yX11_classOf, yX11_timeOf, yX11_submit, yX11_cancel, yX11_plan, yX11_kill, yX11_replace, yX11_takeSnapshot, yX11_poke, yX11_run, yX11_driverState, yX11_downUntil, yX11_streak, yX11_register, yX11_variable, yX11_saved, yX11_logSize, yX11_logged, yX11_inFlight, yX11_nextRequest, yX11_queued, yX11_request, yX11_recordCount, yX11_record, yX11_total, yX11_availability, yX11_meanTime, yX11_forecast, yX11_bestDelay, yX11_freshTrial, yX11_decision, yX11_undoCount, yX11_undo, yX11_saveState, yX11_restoreState, yX11_query, yX11_countMatches, yX11_firstMatch, yX11_isWithin, yX12_init, yX12_in, yX12_fails, yX12_lesser, yX12_standard, yX12_shifts, yX12_takesOver, yX12_copy, yX12_lays, yX12_feed, yX12_errorPosition, yX12_byteAt, yX12_isLetter, yX12_isFigure, yX12_readsWord, yX12_readsNumber, yX12_next, yX12_starts, yX12_wrongs, yX12_isGood, yX12_isWord, yX12_passes, yX12_isByte, yX12_must, yX12_number, yX12_isClauseWord, yX12_isInnerWord, yX12_classHere, yX12_propertyHere, yX12_isName, yX12_isNamed, yX12_nameRead, yX12_adds, yX12_goesIn, yX12_operandRead, yX12_rank, yX12_sumSettles, yX12_hasBracket, yX12_operatorHere, yX12_sumRead, yX12_valueRead, yX12_sideRead, yX12_strength, yX12_settles, yX12_isInside, yX12_isOpening, yX12_comparisonRead, yX12_closes, yX12_testRead, yX12_classRead, yX12_storesRead, yX12_commandClause, yX12_clause, yX12_load, yX12_joined, yX12_cut, yX12_reckons, yX12_factOf, yX12_goesThrough, yX12_of, yX12_sets, yX12_isTrue, yX12_resultOf, yX12_keepsIn, yX12_notes, yX12_endsBadly, yX12_snaps, yX12_endsWell, yX12_loses, yX12_delayOf, yX12_crashes, yX12_decides, yX12_restarts, yX12_nextOf, yX12_dropsLate, yX12_begins, yX12_isPlanned, yX12_goesOn, yX12_ticksOf, yX12_tick, yX12_isDriver, yX12_isCommand, yX12_isRequest, yX12_driverCount, yX12_commandCount, yX12_requestCount, yX12_clock, yX12_classOf, yX12_timeOf, yX12_noDriver, yX12_driverState, yX12_downUntil, yX12_streak, yX12_register, yX12_variable, yX12_saved, yX12_logSize, yX12_logged, yX12_inFlight, yX12_nextRequest, yX12_queued, yX12_noRequest, yX12_request, yX12_recordCount, yX12_record, yX12_total, yX12_availability, yX12_meanTime, yX12_records, yX12_submit, yX12_cancel, yX12_plan, yX12_kill, yX12_replace, yX12_takeSnapshot, yX12_poke, yX12_run, yX12_undoCount, yX12_undo, yX12_saveState, yX12_restoreState, yX12_forecast, yX12_bestDelay, yX12_decision, yX12_propertyOf, yX12_holds, yX12_query, yL_load, yL_classOf, yL_timeOf, yL_submit, yL_cancel, yL_plan, yL_kill, yL_replace, yL_takeSnapshot, yL_poke, yL_run, yL_driverState, yL_downUntil, yL_streak, yL_register, yL_variable, yL_saved, yL_logSize, yL_logged, yL_inFlight, yL_nextRequest, yL_queued, yL_request, yL_record, yL_availability, yL_meanTime, yL_forecast, yL_bestDelay, yL_decision, yL_query, yL_law]
def p_bs : List ByteArray := [cX0_init, cX0_add, cX0_execute, cX0_cellAt, cX0_join, cX1_init, cX2_init, cX2_copyFrom, cX2_registerAt, cX2_variableAt, cX2_snapshotAt, cX2_logAt, cX2_store, cX2_present, cX2_addToLog, cX2_goDown, cX2_clearVariables, cX2_saveVariables, cX2_restoreVariables, cX3_init, cX3_clear, cX3_remember, cX3_takeBack, cX4_init, cX4_copyFrom, cX4_add, cX4_valueAt, cX4_totalOf, cX5_init, cX5_commandAt, cX5_addCommand, cX6_init, cX6_readText, cX6_readQuery, cX6_takeWord, cX6_takeSign, cX6_takeNumber, cX6_readClause, cX6_readCommand, cX6_readName, cX6_readClass, cX6_readStores, cX6_readTest, cX6_readConjunction, cX6_readFactor, cX6_opens, cX6_takeComparison, cX6_readProperty, cX6_readSum, cX6_readProduct, cX6_readOperand, cX7_init, cX7_startAnew, cX7_copyFrom, cX7_isOver, cX7_deadline, cX7_takesCrash, cX7_end, cX7_valueOf, cX7_propertyOf, cX8_init, cX8_scan, cX8_endOf, cX8_add, cX8_numberOf, cX8_isLetter, cX8_isDigit, cX8_advance, cX8_atEnd, cX8_word, cX8_number, cX8_isNumber, cX8_isSign, cX8_isWord, cX8_isName, cX8_refuse, cX8_areSame, cX10_init, cX10_copyFrom, cX10_driverAt, cX10_requestAt, cX10_completions, cX10_addRequest, cX10_pass, cX10_step, cX10_restart, cX10_decide, cX10_failLate, cX10_begin, cX10_nextOf, cX10_work, cX10_doEffect, cX10_resultNow, cX10_doKeepings, cX10_complete, cX10_snapshot, cX10_crash, cX10_strike, cX10_die, cX10_delayFor, cX10_fail, cX10_enqueue, cX10_leaveQueue, cX10_matches, cX11_init, cX11_feed, cX11_append, cX11_load, cX11_errorPosition, cX11_driverCount, cX11_commandCount, cX11_requestCount, cX11_clock, cX11_classOf, cX11_timeOf, cX11_submit, cX11_cancel, cX11_plan, cX11_kill, cX11_replace, cX11_takeSnapshot, cX11_poke, cX11_run, cX11_driverState, cX11_downUntil, cX11_streak, cX11_register, cX11_variable, cX11_saved, cX11_logSize, cX11_logged, cX11_inFlight, cX11_nextRequest, cX11_queued, cX11_request, cX11_recordCount, cX11_record, cX11_total, cX11_availability, cX11_meanTime, cX11_forecast, cX11_bestDelay, cX11_freshTrial, cX11_decision, cX11_undoCount, cX11_undo, cX11_saveState, cX11_restoreState, cX11_query, cX11_countMatches, cX11_firstMatch, cX11_isWithin, cX12_init, cX12_in, cX12_fails, cX12_lesser, cX12_standard, cX12_shifts, cX12_takesOver, cX12_copy, cX12_lays, cX12_feed, cX12_errorPosition, cX12_byteAt, cX12_isLetter, cX12_isFigure, cX12_readsWord, cX12_readsNumber, cX12_next, cX12_starts, cX12_wrongs, cX12_isGood, cX12_isWord, cX12_passes, cX12_isByte, cX12_must, cX12_number, cX12_isClauseWord, cX12_isInnerWord, cX12_classHere, cX12_propertyHere, cX12_isName, cX12_isNamed, cX12_nameRead, cX12_adds, cX12_goesIn, cX12_operandRead, cX12_rank, cX12_sumSettles, cX12_hasBracket, cX12_operatorHere, cX12_sumRead, cX12_valueRead, cX12_sideRead, cX12_strength, cX12_settles, cX12_isInside, cX12_isOpening, cX12_comparisonRead, cX12_closes, cX12_testRead, cX12_classRead, cX12_storesRead, cX12_commandClause, cX12_clause, cX12_load, cX12_joined, cX12_cut, cX12_reckons, cX12_factOf, cX12_goesThrough, cX12_of, cX12_sets, cX12_isTrue, cX12_resultOf, cX12_keepsIn, cX12_notes, cX12_endsBadly, cX12_snaps, cX12_endsWell, cX12_loses, cX12_delayOf, cX12_crashes, cX12_decides, cX12_restarts, cX12_nextOf, cX12_dropsLate, cX12_begins, cX12_isPlanned, cX12_goesOn, cX12_ticksOf, cX12_tick, cX12_isDriver, cX12_isCommand, cX12_isRequest, cX12_driverCount, cX12_commandCount, cX12_requestCount, cX12_clock, cX12_classOf, cX12_timeOf, cX12_noDriver, cX12_driverState, cX12_downUntil, cX12_streak, cX12_register, cX12_variable, cX12_saved, cX12_logSize, cX12_logged, cX12_inFlight, cX12_nextRequest, cX12_queued, cX12_noRequest, cX12_request, cX12_recordCount, cX12_record, cX12_total, cX12_availability, cX12_meanTime, cX12_records, cX12_submit, cX12_cancel, cX12_plan, cX12_kill, cX12_replace, cX12_takeSnapshot, cX12_poke, cX12_run, cX12_undoCount, cX12_undo, cX12_saveState, cX12_restoreState, cX12_forecast, cX12_bestDelay, cX12_decision, cX12_propertyOf, cX12_holds, cX12_query, cL_load, cL_classOf, cL_timeOf, cL_submit, cL_cancel, cL_plan, cL_kill, cL_replace, cL_takeSnapshot, cL_poke, cL_run, cL_driverState, cL_downUntil, cL_streak, cL_register, cL_variable, cL_saved, cL_logSize, cL_logged, cL_inFlight, cL_nextRequest, cL_queued, cL_request, cL_record, cL_availability, cL_meanTime, cL_forecast, cL_bestDelay, cL_decision, cL_query, cL_law]
def p_tts : List (Option FieldType) := [none, none, (some .int), (some .int), (some .int), none, none, none, (some .int), (some .int), (some .int), (some .int), none, none, none, none, none, none, none, none, none, none, (some .int), none, none, none, (some .int), (some .int), none, (some (.object "DriverHost$Command")), none, none, none, none, none, none, (some .int), none, none, none, none, none, none, none, none, (some .boolean), (some .int), none, none, none, none, none, none, none, (some .boolean), (some .int), (some .boolean), none, (some .int), (some .int), none, none, (some .int), none, (some .int), (some .boolean), (some .boolean), none, (some .boolean), (some (.object "DriverHost$Word")), (some .int), (some .boolean), (some .boolean), (some .boolean), (some .boolean), none, (some .boolean), none, none, (some (.object "DriverHost$Driver")), (some (.object "DriverHost$Request")), (some .int), (some (.object "DriverHost$Request")), none, none, none, (some .int), none, none, (some .int), none, (some .int), (some .int), none, none, none, none, none, none, (some .int), none, none, none, (some .boolean), none, (some .int), none, (some .int), (some .int), (some .int), (some .int), (some .int), (some .int), (some .int), (some .int), (some .int), (some .int), (some .int), (some .int), (some .int), (some .int), (some .int), (some .int), (some .int), (some .int), (some .int), (some .int), (some .int), (some .int), (some .int), (some .int), (some .int), (some .int), (some .int), (some .int), (some .int), (some .int), (some .int), (some .double), (some .float), (some .int), (some .int), (some (.object "DriverHost$World")), (some .int), (some .int), (some .int), none, (some .boolean), (some .int), (some .int), (some .int), (some .boolean), none, (some .boolean), (some .boolean), (some .int), none, none, none, none, none, (some .int), (some .int), (some .int), (some .boolean), (some .boolean), none, none, none, none, (some .boolean), (some .boolean), (some .boolean), (some .boolean), (some .boolean), none, (some .int), (some .boolean), (some .boolean), (some .int), (some .int), (some .boolean), (some .boolean), none, none, (some .boolean), none, (some .int), none, (some .boolean), (some .int), none, none, none, (some .int), none, (some .boolean), (some .boolean), none, none, none, none, none, none, none, (some .int), (some .int), (some .int), (some .boolean), (some .int), (some .int), (some .int), none, (some .boolean), (some .int), none, none, none, none, none, none, (some .int), none, none, none, (some .int), none, none, (some .boolean), none, none, none, (some .boolean), (some .boolean), (some .boolean), (some .int), (some .int), (some .int), (some .int), (some .int), (some .int), (some .boolean), (some .int), (some .int), (some .int), (some .int), (some .int), (some .int), (some .int), (some .int), (some .int), (some .int), (some .int), (some .boolean), (some .int), (some .int), (some .int), (some .int), (some .double), (some .float), none, (some .int), (some .int), (some .int), (some .int), (some .int), (some .int), (some .int), (some .int), (some .int), (some .int), none, (some .boolean), (some .int), (some .int), (some .int), (some .int), (some .boolean), (some .int), (some .int), (some .int), (some .int), (some .int), (some .int), (some .int), (some .int), (some .int), (some .int), (some .int), (some .int), (some .int), (some .int), (some .int), (some .int), (some .int), (some .int), (some .int), (some .int), (some .int), (some .int), (some .int), (some .int), (some .int), (some .int), (some .int), (some .int), (some .int), (some .int), (some .int), (some .boolean)]
def p_ins : List Bool := [true, false, false, false, false, true, true, false, false, false, false, false, false, false, false, false, false, false, false, true, false, false, false, true, false, false, false, false, true, false, false, true, false, false, false, false, false, false, false, false, false, false, false, false, false, false, false, false, false, false, false, true, false, false, false, false, false, false, false, false, true, false, false, false, false, false, false, false, false, false, false, false, false, false, false, false, false, true, false, false, false, false, false, false, false, false, false, false, false, false, false, false, false, false, false, false, false, false, false, false, false, false, false, false, true, false, false, false, false, false, false, false, false, false, false, false, false, false, false, false, false, false, false, false, false, false, false, false, false, false, false, false, false, false, false, false, false, false, false, false, false, false, false, false, false, false, false, false, false, false, false, false, true, false, false, false, false, false, false, false, false, false, false, false, false, false, false, false, false, false, false, false, false, false, false, false, false, false, false, false, false, false, false, false, false, false, false, false, false, false, false, false, false, false, false, false, false, false, false, false, false, false, false, false, false, false, false, false, false, false, false, false, false, false, false, false, false, false, false, false, false, false, false, false, false, false, false, false, false, false, false, false, false, false, false, false, false, false, false, false, false, false, false, false, false, false, false, false, false, false, false, false, false, false, false, false, false, false, false, false, false, false, false, false, false, false, false, false, false, false, false, false, false, false, false, false, false, false, false, false, false, false, false, false, false, false, false, false, false, false, false, false, false, false, false, false, false, false, false, false, false, false, false, false, false, false, false, false, false, false]
def p_hd (z x : Nat) : Option (Nat × Nat) := (p_hds.find? (fun q => q.1 == z && q.2.1 == x)).map (fun q => q.2.2)
/-- the constants' ints; their letters; the search for a word -/
def p_wi (k j : Nat) : Int32 := (m_WF.getD j ("", "", "", [])).2.2.2.getD (k - (m_X + 1)) 0
theorem p_wi_ok (j : Nat) : ∀ i, i < m_XN → p_wi (m_X + 1 + i) j = (m_WF.getD j ("", "", "", [])).2.2.2.getD i 0 := fun i _ => by
  unfold p_wi
  rw [Nat.add_sub_cancel_left]
def p_let : List (List Int32) := [[100, 114, 105, 118, 101, 114, 115], [99, 111, 109, 109, 97, 110, 100], [116, 105, 109, 101], [115, 101, 116], [107, 101, 101, 112], [111, 114], [97, 110, 100], [110, 111, 116], [114, 101, 103], [118, 97, 114], [97, 114, 103], [114, 101, 115], [109, 97, 110, 121], [102, 105, 114, 115, 116], [100, 101, 108, 97, 121], [99, 97, 108, 109], [115, 116, 114, 101, 97, 107], [112, 111, 105, 115, 111, 110], [101, 118, 101, 114, 121], [104, 97, 110, 100, 111, 118, 101, 114], [112, 117, 114, 101], [97, 103, 97, 105, 110], [111, 110, 99, 101], [99, 104, 101, 99, 107], [110, 117, 109, 98, 101, 114], [100, 114, 105, 118, 101, 114], [107, 105, 110, 100], [99, 108, 97, 115, 115], [97, 114, 103, 117, 109, 101, 110, 116], [112, 114, 105, 111, 114, 105, 116, 121], [115, 116, 97, 116, 101], [102, 97, 105, 108, 117, 114, 101], [114, 101, 115, 117, 108, 116], [101, 120, 101, 99, 117, 116, 105, 111, 110, 115], [99, 114, 97, 115, 104, 101, 115]]
def p_stands (tx : Nat → Int32) (f e : Int32) (bs : List Int32) : Bool := decide (e - f = Int32.ofNat bs.length) && (List.range bs.length).all (fun i => decide (tx (f.toNatClampNeg + i) = bs.getD i 0))
def p_find (tx : Nat → Int32) (_ : Nat) (f e : Int32) : Option Nat := (p_let.findIdx? (p_stands tx f e)).map (fun i => m_X + 1 + i)
def p_P (L : Nat) (xs : Nat → Int32) : m_P := (fun z t => m_tgl (p_segs.getD z []) t, fun z => p_nas.getD z 0, fun z => p_nls.getD z 0, fun ci k => (p_fks.getD ci []).getD k 0, fun ci => p_nfs.getD ci 0, p_hd, p_wi, fun z => p_rcs.getD z 999, p_find, L, xs)
theorem p_wx {L : Nat} {xs : Nat → Int32} (j : Nat) : ∀ i, i < m_XN → m_xf (p_P L xs) (m_X + 1 + i) j = (m_WF.getD j ("", "", "", [])).2.2.2.getD i 0 := fun i hi => (show p_wi (m_X + 1 + i) j = _ from p_wi_ok j i hi)
def p_Y (z : Nat) : MethodName := p_ys.getD z yX0_init
def p_B (z : Nat) : ByteArray := p_bs.getD z cX0_init
def p_TT (z : Nat) : Option FieldType := p_tts.getD z none
def p_INI (z : Nat) : Bool := p_ins.getD z false
def p_HH (z : Nat) : List (Nat × Nat × Nat × Nat) := p_hhs.getD z []
def p_TG (z t : Nat) : Prop := m_tgb (p_segs.getD z []) t = true
abbrev p_NM : Nat := 310
abbrev p_LAW : Nat := 309
def p_G : List Cond := (Cond.code x code maxLocals ret :: lw_tbl).filter goodWord
theorem inG_t {w : Cond} (i : Nat) (h : tables_1[i]? = some w) (hg : goodWord w = true) : w ∈ p_G := List.mem_filter.mpr ⟨List.mem_cons_of_mem _ (List.mem_append_right _ (List.mem_of_getElem? h)), hg⟩
theorem inG_s {w : Cond} (i : Nat) (h : (k2_sels lw_privs)[i]? = some w) (hg : goodWord w = true) : w ∈ p_G := List.mem_filter.mpr ⟨List.mem_cons_of_mem _ (List.mem_append_left _ (List.mem_of_getElem? h)), hg⟩
theorem inG_l : Cond.code x code maxLocals ret ∈ p_G := List.mem_filter.mpr ⟨List.mem_cons_self, by decide +kernel⟩
theorem p_good : ∀ w ∈ p_G, goodWord w = true := fun w h => (List.mem_filter.mp h).2
