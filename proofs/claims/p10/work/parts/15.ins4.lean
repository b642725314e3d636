/-- GraphReader$Handles.<init>()V -/
def gm_i110 : List (Nat × Instr × Nat) := [(0, .aload_n 0, 1), (1, .invokespecial 3, 3), (4, .aload_n 0, 1), (5, .sipush 234, 3), (8, .newarray .int, 2), (10, .putfield 9, 3), (13, .aload_n 0, 1), (14, .sipush 234, 3), (17, .anewarray 15, 3), (20, .putfield 17, 3), (23, .return_, 1)]
set_option maxRecDepth 100000 in
theorem gm_d110 : ∀ q ∈ gm_i110, decode prog_3_method_1_code q.1 = .ok q.2 := by decide +kernel
/-- GraphReader$Handles.size()I -/
def gm_i111 : List (Nat × Instr × Nat) := [(0, .aload_n 0, 1), (1, .getfield 21, 3), (4, .aload_n 0, 1), (5, .getfield 25, 3), (8, .isub, 1), (9, .ireturn, 1)]
set_option maxRecDepth 100000 in
theorem gm_d111 : ∀ q ∈ gm_i111, decode prog_3_method_2_code q.1 = .ok q.2 := by decide +kernel
/-- GraphReader$Handles.rewind(II)V -/
def gm_i112 : List (Nat × Instr × Nat) := [(0, .aload_n 0, 1), (1, .iload_n 1, 1), (2, .putfield 25, 3), (5, .aload_n 0, 1), (6, .iload_n 2, 1), (7, .putfield 21, 3), (10, .return_, 1)]
set_option maxRecDepth 100000 in
theorem gm_d112 : ∀ q ∈ gm_i112, decode prog_3_method_3_code q.1 = .ok q.2 := by decide +kernel
/-- GraphReader$Handles.add(I)I -/
def gm_i113 : List (Nat × Instr × Nat) := [(0, .aload_n 0, 1), (1, .getfield 9, 3), (4, .aload_n 0, 1), (5, .getfield 21, 3), (8, .iload_n 1, 1), (9, .iastore, 1), (10, .aload_n 0, 1), (11, .getfield 17, 3), (14, .aload_n 0, 1), (15, .getfield 21, 3), (18, .aconst_null, 1), (19, .aastore, 1), (20, .aload_n 0, 1), (21, .dup, 1), (22, .getfield 21, 3), (25, .iconst 1, 1), (26, .iadd, 1), (27, .putfield 21, 3), (30, .aload_n 0, 1), (31, .getfield 21, 3), (34, .iconst 1, 1), (35, .isub, 1), (36, .ireturn, 1)]
set_option maxRecDepth 100000 in
theorem gm_d113 : ∀ q ∈ gm_i113, decode prog_3_method_4_code q.1 = .ok q.2 := by decide +kernel
/-- GraphReader$LocalClass.<init>(IILGraphReader$LocalClass;J)V -/
def gm_i114 : List (Nat × Instr × Nat) := [(0, .aload_n 0, 1), (1, .invokespecial 3, 3), (4, .aload_n 0, 1), (5, .iconst 4, 1), (6, .newarray .int, 2), (8, .putfield 9, 3), (11, .aload_n 0, 1), (12, .iconst 4, 1), (13, .newarray .int, 2), (15, .putfield 15, 3), (18, .aload_n 0, 1), (19, .iload_n 1, 1), (20, .putfield 18, 3), (23, .aload_n 0, 1), (24, .iload_n 2, 1), (25, .putfield 22, 3), (28, .aload_n 0, 1), (29, .aload_n 3, 1), (30, .putfield 25, 3), (33, .aload_n 0, 1), (34, .lload 4, 2), (36, .putfield 29, 3), (39, .return_, 1)]
set_option maxRecDepth 100000 in
theorem gm_d114 : ∀ q ∈ gm_i114, decode prog_4_method_1_code q.1 = .ok q.2 := by decide +kernel
/-- GraphReader$LocalClass.indexOf(I)I -/
def gm_i115 : List (Nat × Instr × Nat) := [(0, .iconst 0, 1), (1, .istore_n 2, 1), (2, .iload_n 2, 1), (3, .aload_n 0, 1), (4, .getfield 33, 3), (7, .if_icmp .ge 21, 3), (10, .aload_n 0, 1), (11, .getfield 9, 3), (14, .iload_n 2, 1), (15, .iaload, 1), (16, .iload_n 1, 1), (17, .if_icmp .ne 5, 3), (20, .iload_n 2, 1), (21, .ireturn, 1), (22, .iinc 2 1, 3), (25, .goto (-23), 3), (28, .iconst (-1), 1), (29, .ireturn, 1)]
set_option maxRecDepth 100000 in
theorem gm_d115 : ∀ q ∈ gm_i115, decode prog_4_method_2_code q.1 = .ok q.2 := by decide +kernel
/-- GraphReader$LocalClass.addField(II)V -/
def gm_i116 : List (Nat × Instr × Nat) := [(0, .aload_n 0, 1), (1, .getfield 33, 3), (4, .iconst 4, 1), (5, .if_icmp .ge 33, 3), (8, .aload_n 0, 1), (9, .getfield 9, 3), (12, .aload_n 0, 1), (13, .getfield 33, 3), (16, .iload_n 1, 1), (17, .iastore, 1), (18, .aload_n 0, 1), (19, .getfield 15, 3), (22, .aload_n 0, 1), (23, .getfield 33, 3), (26, .iload_n 2, 1), (27, .iastore, 1), (28, .aload_n 0, 1), (29, .dup, 1), (30, .getfield 33, 3), (33, .iconst 1, 1), (34, .iadd, 1), (35, .putfield 33, 3), (38, .return_, 1)]
set_option maxRecDepth 100000 in
theorem gm_d116 : ∀ q ∈ gm_i116, decode prog_4_method_3_code q.1 = .ok q.2 := by decide +kernel
/-- GraphReader$LocalClass.chainHas(LGraphReader$LocalClass;)Z -/
def gm_i117 : List (Nat × Instr × Nat) := [(0, .aload_n 0, 1), (1, .astore_n 2, 1), (2, .aload_n 2, 1), (3, .ifnull 18, 3), (6, .aload_n 2, 1), (7, .aload_n 1, 1), (8, .if_acmp .ne 5, 3), (11, .iconst 1, 1), (12, .ireturn, 1), (13, .aload_n 2, 1), (14, .getfield 25, 3), (17, .astore_n 2, 1), (18, .goto (-16), 3), (21, .iconst 0, 1), (22, .ireturn, 1)]
set_option maxRecDepth 100000 in
theorem gm_d117 : ∀ q ∈ gm_i117, decode prog_4_method_4_code q.1 = .ok q.2 := by decide +kernel
/-- GraphReader$LocalClass.firstSlot()I -/
def gm_i118 : List (Nat × Instr × Nat) := [(0, .aload_n 0, 1), (1, .getfield 25, 3), (4, .ifnonnull 7, 3), (7, .iconst 0, 1), (8, .goto 10, 3), (11, .aload_n 0, 1), (12, .getfield 25, 3), (15, .invokevirtual 36, 3), (18, .ireturn, 1)]
set_option maxRecDepth 100000 in
theorem gm_d118 : ∀ q ∈ gm_i118, decode prog_4_method_5_code q.1 = .ok q.2 := by decide +kernel
/-- GraphReader$LocalClass.slotCount()I -/
def gm_i119 : List (Nat × Instr × Nat) := [(0, .iconst 0, 1), (1, .istore_n 1, 1), (2, .aload_n 0, 1), (3, .astore_n 2, 1), (4, .aload_n 2, 1), (5, .ifnull 18, 3), (8, .iload_n 1, 1), (9, .aload_n 2, 1), (10, .getfield 33, 3), (13, .iadd, 1), (14, .istore_n 1, 1), (15, .aload_n 2, 1), (16, .getfield 25, 3), (19, .astore_n 2, 1), (20, .goto (-16), 3), (23, .iload_n 1, 1), (24, .ireturn, 1)]
set_option maxRecDepth 100000 in
theorem gm_d119 : ∀ q ∈ gm_i119, decode prog_4_method_6_code q.1 = .ok q.2 := by decide +kernel
/-- GraphReader$LocalClass.slotOf(II)I -/
def gm_i120 : List (Nat × Instr × Nat) := [(0, .aload_n 0, 1), (1, .iload_n 1, 1), (2, .invokevirtual 40, 3), (5, .istore_n 3, 1), (6, .iload_n 3, 1), (7, .ifCond .lt 22, 3), (10, .aload_n 0, 1), (11, .getfield 15, 3), (14, .iload_n 3, 1), (15, .iaload, 1), (16, .iload_n 2, 1), (17, .if_icmp .ne 12, 3), (20, .aload_n 0, 1), (21, .invokevirtual 44, 3), (24, .iload_n 3, 1), (25, .iadd, 1), (26, .goto 4, 3), (29, .iconst (-1), 1), (30, .ireturn, 1)]
set_option maxRecDepth 100000 in
theorem gm_d120 : ∀ q ∈ gm_i120, decode prog_4_method_7_code q.1 = .ok q.2 := by decide +kernel
/-- GraphReader$LocalClass.fillSlots([J)V -/
def gm_i121 : List (Nat × Instr × Nat) := [(0, .aload_n 0, 1), (1, .astore_n 2, 1), (2, .aload_n 2, 1), (3, .ifnull 61, 3), (6, .aload_n 2, 1), (7, .invokevirtual 44, 3), (10, .istore_n 3, 1), (11, .iconst 0, 1), (12, .istore 4, 2), (14, .iload 4, 2), (16, .aload_n 2, 1), (17, .getfield 33, 3), (20, .if_icmp .ge 36, 3), (23, .iload_n 3, 1), (24, .iload 4, 2), (26, .iadd, 1), (27, .aload_n 1, 1), (28, .arraylength, 1), (29, .if_icmp .ge 27, 3), (32, .aload_n 1, 1), (33, .iload_n 3, 1), (34, .iload 4, 2), (36, .iadd, 1), (37, .aload_n 2, 1), (38, .aload_n 2, 1), (39, .getfield 15, 3), (42, .iload 4, 2), (44, .iaload, 1), (45, .invokevirtual 47, 3), (48, .i2l, 1), (49, .lastore, 1), (50, .iinc 4 1, 3), (53, .goto (-39), 3), (56, .aload_n 2, 1), (57, .getfield 25, 3), (60, .astore_n 2, 1), (61, .goto (-59), 3), (64, .return_, 1)]
set_option maxRecDepth 100000 in
theorem gm_d121 : ∀ q ∈ gm_i121, decode prog_4_method_8_code q.1 = .ok q.2 := by decide +kernel
/-- GraphReader$LocalClass.valueAtFirst(I)I -/
def gm_i122 : List (Nat × Instr × Nat) := [(0, .iload_n 1, 1), (1, .bipush 6, 2), (3, .if_icmp .lt 6, 3), (6, .bipush (-2), 2), (8, .ireturn, 1), (9, .aload_n 0, 1), (10, .getfield 22, 3), (13, .ifCond .eq 5, 3), (16, .iconst 0, 1), (17, .ireturn, 1), (18, .iload_n 1, 1), (19, .iconst 5, 1), (20, .if_icmp .ne 7, 3), (23, .iconst 1, 1), (24, .goto 5, 3), (27, .bipush 7, 2), (29, .ireturn, 1)]
set_option maxRecDepth 100000 in
theorem gm_d122 : ∀ q ∈ gm_i122, decode prog_4_method_9_code q.1 = .ok q.2 := by decide +kernel
/-- GraphReader$Thing.<init>(ILGraphReader$LocalClass;I)V -/
def gm_i123 : List (Nat × Instr × Nat) := [(0, .aload_n 0, 1), (1, .invokespecial 1, 3), (4, .aload_n 0, 1), (5, .iload_n 1, 1), (6, .putfield 7, 3), (9, .aload_n 0, 1), (10, .aload_n 2, 1), (11, .putfield 13, 3), (14, .aload_n 0, 1), (15, .iload_n 3, 1), (16, .newarray .long, 2), (18, .putfield 17, 3), (21, .return_, 1)]
set_option maxRecDepth 100000 in
theorem gm_d123 : ∀ q ∈ gm_i123, decode prog_5_method_1_code q.1 = .ok q.2 := by decide +kernel
/-- java/lang/Math.max(II)I -/
def gm_i124 : List (Nat × Instr × Nat) := [(0, .iload_n 0, 1), (1, .iload_n 1, 1), (2, .if_icmp .lt 7, 3), (5, .iload_n 0, 1), (6, .goto 4, 3), (9, .iload_n 1, 1), (10, .ireturn, 1)]
set_option maxRecDepth 100000 in
theorem gm_d124 : ∀ q ∈ gm_i124, decode prog_11_method_65_code q.1 = .ok q.2 := by decide +kernel
/-- java/lang/Math.min(II)I -/
def gm_i125 : List (Nat × Instr × Nat) := [(0, .iload_n 0, 1), (1, .iload_n 1, 1), (2, .if_icmp .gt 7, 3), (5, .iload_n 0, 1), (6, .goto 4, 3), (9, .iload_n 1, 1), (10, .ireturn, 1)]
set_option maxRecDepth 100000 in
theorem gm_d125 : ∀ q ∈ gm_i125, decode prog_11_method_69_code q.1 = .ok q.2 := by decide +kernel
/-- java/lang/String.length()I -/
def gm_i126 : List (Nat × Instr × Nat) := [(0, .aload_n 0, 1), (1, .getfield 9, 3), (4, .arraylength, 1), (5, .aload_n 0, 1), (6, .invokevirtual 335, 3), (9, .ishr, 1), (10, .ireturn, 1)]
set_option maxRecDepth 100000 in
theorem gm_d126 : ∀ q ∈ gm_i126, decode prog_13_method_54_code q.1 = .ok q.2 := by decide +kernel
/-- java/lang/String.charAt(I)C -/
def gm_i127 : List (Nat × Instr × Nat) := [(0, .aload_n 0, 1), (1, .invokevirtual 492, 3), (4, .ifCond .eq 12, 3), (7, .aload_n 0, 1), (8, .getfield 9, 3), (11, .iload_n 1, 1), (12, .invokestatic 495, 3), (15, .ireturn, 1), (16, .aload_n 0, 1), (17, .getfield 9, 3), (20, .iload_n 1, 1), (21, .invokestatic 498, 3), (24, .ireturn, 1)]
set_option maxRecDepth 100000 in
theorem gm_d127 : ∀ q ∈ gm_i127, decode prog_13_method_56_code q.1 = .ok q.2 := by decide +kernel
/-- java/lang/String.indexOf(I)I -/
def gm_i128 : List (Nat × Instr × Nat) := [(0, .aload_n 0, 1), (1, .iload_n 1, 1), (2, .iconst 0, 1), (3, .invokevirtual 633, 3), (6, .ireturn, 1)]
set_option maxRecDepth 100000 in
theorem gm_d128 : ∀ q ∈ gm_i128, decode prog_13_method_79_code q.1 = .ok q.2 := by decide +kernel
/-- java/lang/String.indexOf(II)I -/
def gm_i129 : List (Nat × Instr × Nat) := [(0, .aload_n 0, 1), (1, .invokevirtual 492, 3), (4, .ifCond .eq 19, 3), (7, .aload_n 0, 1), (8, .getfield 9, 3), (11, .iload_n 1, 1), (12, .iload_n 2, 1), (13, .aload_n 0, 1), (14, .invokevirtual 505, 3), (17, .invokestatic 637, 3), (20, .goto 16, 3), (23, .aload_n 0, 1), (24, .getfield 9, 3), (27, .iload_n 1, 1), (28, .iload_n 2, 1), (29, .aload_n 0, 1), (30, .invokevirtual 505, 3), (33, .invokestatic 640, 3), (36, .ireturn, 1)]
set_option maxRecDepth 100000 in
theorem gm_d129 : ∀ q ∈ gm_i129, decode prog_13_method_80_code q.1 = .ok q.2 := by decide +kernel
/-- java/lang/String.coder()B -/
def gm_i130 : List (Nat × Instr × Nat) := [(0, .getstatic 38, 3), (3, .ifCond .eq 10, 3), (6, .aload_n 0, 1), (7, .getfield 15, 3), (10, .goto 4, 3), (13, .iconst 1, 1), (14, .ireturn, 1)]
set_option maxRecDepth 100000 in
theorem gm_d130 : ∀ q ∈ gm_i130, decode prog_13_method_152_code q.1 = .ok q.2 := by decide +kernel
/-- java/lang/String.isLatin1()Z -/
def gm_i131 : List (Nat × Instr × Nat) := [(0, .getstatic 38, 3), (3, .ifCond .eq 14, 3), (6, .aload_n 0, 1), (7, .getfield 15, 3), (10, .ifCond .ne 7, 3), (13, .iconst 1, 1), (14, .goto 4, 3), (17, .iconst 0, 1), (18, .ireturn, 1)]
set_option maxRecDepth 100000 in
theorem gm_d131 : ∀ q ∈ gm_i131, decode prog_13_method_154_code q.1 = .ok q.2 := by decide +kernel
/-- java/lang/String.checkIndex(II)V -/
def gm_i132 : List (Nat × Instr × Nat) := [(0, .iload_n 0, 1), (1, .iload_n 1, 1), (2, .getstatic 1053, 3), (5, .invokestatic 1059, 3), (8, .pop, 1), (9, .return_, 1)]
set_option maxRecDepth 100000 in
theorem gm_d132 : ∀ q ∈ gm_i132, decode prog_13_method_155_code q.1 = .ok q.2 := by decide +kernel
/-- java/lang/StringLatin1.charAt([BI)C -/
def gm_i133 : List (Nat × Instr × Nat) := [(0, .iload_n 1, 1), (1, .aload_n 0, 1), (2, .arraylength, 1), (3, .invokestatic 9, 3), (6, .aload_n 0, 1), (7, .iload_n 1, 1), (8, .baload, 1), (9, .sipush 255, 3), (12, .iand, 1), (13, .i2c, 1), (14, .ireturn, 1)]
set_option maxRecDepth 100000 in
theorem gm_d133 : ∀ q ∈ gm_i133, decode prog_14_method_2_code q.1 = .ok q.2 := by decide +kernel
/-- java/lang/StringLatin1.canEncode(I)Z -/
def gm_i134 : List (Nat × Instr × Nat) := [(0, .iload_n 0, 1), (1, .ifCond .lt 14, 3), (4, .iload_n 0, 1), (5, .sipush 255, 3), (8, .if_icmp .gt 7, 3), (11, .iconst 1, 1), (12, .goto 4, 3), (15, .iconst 0, 1), (16, .ireturn, 1)]
set_option maxRecDepth 100000 in
theorem gm_d134 : ∀ q ∈ gm_i134, decode prog_14_method_4_code q.1 = .ok q.2 := by decide +kernel
/-- java/lang/StringLatin1.indexOf([BIII)I -/
def gm_i135 : List (Nat × Instr × Nat) := [(0, .iload_n 1, 1), (1, .invokestatic 88, 3), (4, .ifCond .ne 5, 3), (7, .iconst (-1), 1), (8, .ireturn, 1), (9, .iload_n 2, 1), (10, .iconst 0, 1), (11, .invokestatic 92, 3), (14, .istore_n 2, 1), (15, .iload_n 3, 1), (16, .aload_n 0, 1), (17, .arraylength, 1), (18, .invokestatic 38, 3), (21, .istore_n 3, 1), (22, .iload_n 2, 1), (23, .iload_n 3, 1), (24, .if_icmp .lt 5, 3), (27, .iconst (-1), 1), (28, .ireturn, 1), (29, .aload_n 0, 1), (30, .iload_n 1, 1), (31, .iload_n 2, 1), (32, .iload_n 3, 1), (33, .invokestatic 95, 3), (36, .ireturn, 1)]
set_option maxRecDepth 100000 in
theorem gm_d135 : ∀ q ∈ gm_i135, decode prog_14_method_22_code q.1 = .ok q.2 := by decide +kernel
/-- java/lang/StringLatin1.indexOfChar([BIII)I -/
def gm_i136 : List (Nat × Instr × Nat) := [(0, .iload_n 1, 1), (1, .i2b, 1), (2, .istore 4, 2), (4, .iload_n 2, 1), (5, .istore 5, 2), (7, .iload 5, 2), (9, .iload_n 3, 1), (10, .if_icmp .ge 21, 3), (13, .aload_n 0, 1), (14, .iload 5, 2), (16, .baload, 1), (17, .iload 4, 2), (19, .if_icmp .ne 6, 3), (22, .iload 5, 2), (24, .ireturn, 1), (25, .iinc 5 1, 3), (28, .goto (-21), 3), (31, .iconst (-1), 1), (32, .ireturn, 1)]
set_option maxRecDepth 100000 in
theorem gm_d136 : ∀ q ∈ gm_i136, decode prog_14_method_23_code q.1 = .ok q.2 := by decide +kernel
/-- jdk/internal/util/Preconditions.checkIndex(IILjava/util/function/BiFunction;)I -/
def gm_i137 : List (Nat × Instr × Nat) := [(0, .iload_n 0, 1), (1, .ifCond .lt 8, 3), (4, .iload_n 0, 1), (5, .iload_n 1, 1), (6, .if_icmp .lt 10, 3), (9, .aload_n 2, 1), (10, .iload_n 0, 1), (11, .iload_n 1, 1), (12, .invokestatic 95, 3), (15, .athrow, 1), (16, .iload_n 0, 1), (17, .ireturn, 1)]
set_option maxRecDepth 100000 in
theorem gm_d137 : ∀ q ∈ gm_i137, decode prog_17_method_11_code q.1 = .ok q.2 := by decide +kernel
