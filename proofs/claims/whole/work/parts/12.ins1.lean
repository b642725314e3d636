/-- GraphReader.passUtf()I -/
def gm_i30 : List (Nat × Instr × Nat) := [(0, .aload_n 0, 1), (1, .iconst 2, 1), (2, .invokevirtual 163, 3), (5, .l2i, 1), (6, .istore_n 1, 1), (7, .aload_n 0, 1), (8, .getfield 96, 3), (11, .istore_n 2, 1), (12, .iconst 0, 1), (13, .istore_n 3, 1), (14, .iload_n 3, 1), (15, .iload_n 1, 1), (16, .if_icmp .ge 56, 3), (19, .aload_n 0, 1), (20, .getfield 96, 3), (23, .aload_n 0, 1), (24, .getfield 93, 3), (27, .if_icmp .lt 10, 3), (30, .aload_n 0, 1), (31, .bipush (-3), 2), (33, .invokevirtual 160, 3), (36, .ireturn, 1), (37, .aload_n 0, 1), (38, .getfield 15, 3), (41, .aload_n 0, 1), (42, .getfield 96, 3), (45, .baload, 1), (46, .ifCond .gt 10, 3), (49, .aload_n 0, 1), (50, .bipush (-4), 2), (52, .invokevirtual 160, 3), (55, .ireturn, 1), (56, .aload_n 0, 1), (57, .dup, 1), (58, .getfield 96, 3), (61, .iconst 1, 1), (62, .iadd, 1), (63, .putfield 96, 3), (66, .iinc 3 1, 3), (69, .goto (-55), 3), (72, .iload_n 2, 1), (73, .ireturn, 1)]
set_option maxRecDepth 100000 in
theorem gm_d30 : ∀ q ∈ gm_i30, decode prog_1_method_21_code q.1 = .ok q.2 := by decide +kernel
/-- GraphReader$Descriptor.<init>(IIJ)V -/
def gm_i31 : List (Nat × Instr × Nat) := [(0, .aload_n 0, 1), (1, .invokespecial 3, 3), (4, .aload_n 0, 1), (5, .iload_n 1, 1), (6, .putfield 9, 3), (9, .aload_n 0, 1), (10, .iload_n 2, 1), (11, .putfield 15, 3), (14, .aload_n 0, 1), (15, .lload_n 3, 1), (16, .putfield 18, 3), (19, .return_, 1)]
set_option maxRecDepth 100000 in
theorem gm_d31 : ∀ q ∈ gm_i31, decode prog_2_method_1_code q.1 = .ok q.2 := by decide +kernel
/-- GraphReader.addEntry(I)I -/
def gm_i32 : List (Nat × Instr × Nat) := [(0, .aload_n 0, 1), (1, .getfield 28, 3), (4, .getfield 113, 3), (7, .sipush 234, 3), (10, .if_icmp .lt 10, 3), (13, .aload_n 0, 1), (14, .bipush (-8), 2), (16, .invokevirtual 160, 3), (19, .ireturn, 1), (20, .aload_n 0, 1), (21, .getfield 28, 3), (24, .iload_n 1, 1), (25, .invokevirtual 185, 3), (28, .ireturn, 1)]
set_option maxRecDepth 100000 in
theorem gm_d32 : ∀ q ∈ gm_i32, decode prog_1_method_28_code q.1 = .ok q.2 := by decide +kernel
/-- GraphReader$Handles.add(I)I -/
def gm_i33 : List (Nat × Instr × Nat) := [(0, .aload_n 0, 1), (1, .getfield 9, 3), (4, .aload_n 0, 1), (5, .getfield 21, 3), (8, .iload_n 1, 1), (9, .iastore, 1), (10, .aload_n 0, 1), (11, .getfield 17, 3), (14, .aload_n 0, 1), (15, .getfield 21, 3), (18, .aconst_null, 1), (19, .aastore, 1), (20, .aload_n 0, 1), (21, .dup, 1), (22, .getfield 21, 3), (25, .iconst 1, 1), (26, .iadd, 1), (27, .putfield 21, 3), (30, .aload_n 0, 1), (31, .getfield 21, 3), (34, .iconst 1, 1), (35, .isub, 1), (36, .ireturn, 1)]
set_option maxRecDepth 100000 in
theorem gm_d33 : ∀ q ∈ gm_i33, decode prog_3_method_4_code q.1 = .ok q.2 := by decide +kernel
/-- GraphReader.readFlags(LGraphReader$Descriptor;)V -/
def gm_i34 : List (Nat × Instr × Nat) := [(0, .aload_n 1, 1), (1, .aload_n 0, 1), (2, .invokevirtual 176, 3), (5, .putfield 343, 3), (8, .aload_n 1, 1), (9, .iconst 2, 1), (10, .invokevirtual 309, 3), (13, .ifCond .eq 11, 3), (16, .aload_n 1, 1), (17, .iconst 4, 1), (18, .invokevirtual 309, 3), (21, .ifCond .ne 19, 3), (24, .aload_n 1, 1), (25, .invokevirtual 256, 3), (28, .ifCond .eq 19, 3), (31, .aload_n 1, 1), (32, .getfield 346, 3), (35, .lconst 0, 1), (36, .lcmp, 1), (37, .ifCond .eq 10, 3), (40, .aload_n 0, 1), (41, .bipush (-5), 2), (43, .invokevirtual 160, 3), (46, .pop, 1), (47, .return_, 1)]
set_option maxRecDepth 100000 in
theorem gm_d34 : ∀ q ∈ gm_i34, decode prog_1_method_48_code q.1 = .ok q.2 := by decide +kernel
/-- GraphReader$Descriptor.has(I)Z -/
def gm_i35 : List (Nat × Instr × Nat) := [(0, .aload_n 0, 1), (1, .getfield 22, 3), (4, .iload_n 1, 1), (5, .iand, 1), (6, .ifCond .eq 7, 3), (9, .iconst 1, 1), (10, .goto 4, 3), (13, .iconst 0, 1), (14, .ireturn, 1)]
set_option maxRecDepth 100000 in
theorem gm_d35 : ∀ q ∈ gm_i35, decode prog_2_method_2_code q.1 = .ok q.2 := by decide +kernel
/-- GraphReader$Descriptor.isConstant()Z -/
def gm_i36 : List (Nat × Instr × Nat) := [(0, .aload_n 0, 1), (1, .bipush 16, 2), (3, .invokevirtual 25, 3), (6, .ireturn, 1)]
set_option maxRecDepth 100000 in
theorem gm_d36 : ∀ q ∈ gm_i36, decode prog_2_method_3_code q.1 = .ok q.2 := by decide +kernel
/-- GraphReader.readStreamFields(LGraphReader$Descriptor;I)V -/
def gm_i37 : List (Nat × Instr × Nat) := [(0, .aload_n 0, 1), (1, .iconst 2, 1), (2, .invokevirtual 163, 3), (5, .l2i, 1), (6, .istore_n 3, 1), (7, .iload_n 3, 1), (8, .bipush 8, 2), (10, .if_icmp .le 10, 3), (13, .aload_n 0, 1), (14, .bipush (-5), 2), (16, .invokevirtual 160, 3), (19, .pop, 1), (20, .aload_n 1, 1), (21, .iload_n 3, 1), (22, .invokevirtual 350, 3), (25, .iconst 0, 1), (26, .istore 4, 2), (28, .iload 4, 2), (30, .iload_n 3, 1), (31, .if_icmp .ge 101, 3), (34, .ldc_w 353, 3), (37, .aload_n 0, 1), (38, .invokevirtual 176, 3), (41, .i2c, 1), (42, .invokevirtual 355, 3), (45, .istore 5, 2), (47, .iload 5, 2), (49, .ifCond .ge 10, 3), (52, .aload_n 0, 1), (53, .bipush (-5), 2), (55, .invokevirtual 160, 3), (58, .pop, 1), (59, .aload_n 0, 1), (60, .invokevirtual 225, 3), (63, .istore 6, 2), (65, .aload_n 1, 1), (66, .getfield 296, 3), (69, .iload 4, 2), (71, .iload 5, 2), (73, .iastore, 1), (74, .aload_n 1, 1), (75, .getfield 300, 3), (78, .iload 4, 2), (80, .aload_n 0, 1), (81, .iload 6, 2), (83, .aload_n 0, 1), (84, .getfield 96, 3), (87, .iload 6, 2), (89, .isub, 1), (90, .bipush 97, 2), (92, .bipush 26, 2), (94, .invokevirtual 356, 3), (97, .iastore, 1), (98, .iload 5, 2), (100, .bipush 6, 2), (102, .if_icmp .lt 24, 3), (105, .aload_n 0, 1), (106, .aload_n 0, 1), (107, .iload_n 2, 1), (108, .iconst 1, 1), (109, .iadd, 1), (110, .invokevirtual 182, 3), (113, .invokevirtual 360, 3), (116, .ifCond .ne 10, 3), (119, .aload_n 0, 1), (120, .bipush (-4), 2), (122, .invokevirtual 160, 3), (125, .pop, 1), (126, .iinc 4 1, 3), (129, .goto (-101), 3), (132, .aload_n 1, 1), (133, .invokevirtual 256, 3), (136, .ifCond .eq 14, 3), (139, .iload_n 3, 1), (140, .ifCond .le 10, 3), (143, .aload_n 0, 1), (144, .bipush (-5), 2), (146, .invokevirtual 160, 3), (149, .pop, 1), (150, .return_, 1)]
set_option maxRecDepth 100000 in
theorem gm_d37 : ∀ q ∈ gm_i37, decode prog_1_method_49_code q.1 = .ok q.2 := by decide +kernel
/-- GraphReader$Descriptor.makeFields(I)V -/
def gm_i38 : List (Nat × Instr × Nat) := [(0, .aload_n 0, 1), (1, .iload_n 1, 1), (2, .putfield 29, 3), (5, .aload_n 0, 1), (6, .iload_n 1, 1), (7, .newarray .int, 2), (9, .putfield 32, 3), (12, .aload_n 0, 1), (13, .iload_n 1, 1), (14, .newarray .int, 2), (16, .putfield 36, 3), (19, .return_, 1)]
set_option maxRecDepth 100000 in
theorem gm_d38 : ∀ q ∈ gm_i38, decode prog_2_method_4_code q.1 = .ok q.2 := by decide +kernel
/-- java/lang/String.indexOf(I)I -/
def gm_i39 : List (Nat × Instr × Nat) := [(0, .aload_n 0, 1), (1, .iload_n 1, 1), (2, .iconst 0, 1), (3, .invokevirtual 633, 3), (6, .ireturn, 1)]
set_option maxRecDepth 100000 in
theorem gm_d39 : ∀ q ∈ gm_i39, decode prog_13_method_79_code q.1 = .ok q.2 := by decide +kernel
/-- java/lang/String.indexOf(II)I -/
def gm_i40 : List (Nat × Instr × Nat) := [(0, .aload_n 0, 1), (1, .invokevirtual 492, 3), (4, .ifCond .eq 19, 3), (7, .aload_n 0, 1), (8, .getfield 9, 3), (11, .iload_n 1, 1), (12, .iload_n 2, 1), (13, .aload_n 0, 1), (14, .invokevirtual 505, 3), (17, .invokestatic 637, 3), (20, .goto 16, 3), (23, .aload_n 0, 1), (24, .getfield 9, 3), (27, .iload_n 1, 1), (28, .iload_n 2, 1), (29, .aload_n 0, 1), (30, .invokevirtual 505, 3), (33, .invokestatic 640, 3), (36, .ireturn, 1)]
set_option maxRecDepth 100000 in
theorem gm_d40 : ∀ q ∈ gm_i40, decode prog_13_method_80_code q.1 = .ok q.2 := by decide +kernel
/-- java/lang/String.isLatin1()Z -/
def gm_i41 : List (Nat × Instr × Nat) := [(0, .getstatic 38, 3), (3, .ifCond .eq 14, 3), (6, .aload_n 0, 1), (7, .getfield 15, 3), (10, .ifCond .ne 7, 3), (13, .iconst 1, 1), (14, .goto 4, 3), (17, .iconst 0, 1), (18, .ireturn, 1)]
set_option maxRecDepth 100000 in
theorem gm_d41 : ∀ q ∈ gm_i41, decode prog_13_method_154_code q.1 = .ok q.2 := by decide +kernel
/-- java/lang/String.length()I -/
def gm_i42 : List (Nat × Instr × Nat) := [(0, .aload_n 0, 1), (1, .getfield 9, 3), (4, .arraylength, 1), (5, .aload_n 0, 1), (6, .invokevirtual 335, 3), (9, .ishr, 1), (10, .ireturn, 1)]
set_option maxRecDepth 100000 in
theorem gm_d42 : ∀ q ∈ gm_i42, decode prog_13_method_54_code q.1 = .ok q.2 := by decide +kernel
/-- java/lang/String.coder()B -/
def gm_i43 : List (Nat × Instr × Nat) := [(0, .getstatic 38, 3), (3, .ifCond .eq 10, 3), (6, .aload_n 0, 1), (7, .getfield 15, 3), (10, .goto 4, 3), (13, .iconst 1, 1), (14, .ireturn, 1)]
set_option maxRecDepth 100000 in
theorem gm_d43 : ∀ q ∈ gm_i43, decode prog_13_method_152_code q.1 = .ok q.2 := by decide +kernel
/-- java/lang/StringLatin1.indexOf([BIII)I -/
def gm_i44 : List (Nat × Instr × Nat) := [(0, .iload_n 1, 1), (1, .invokestatic 88, 3), (4, .ifCond .ne 5, 3), (7, .iconst (-1), 1), (8, .ireturn, 1), (9, .iload_n 2, 1), (10, .iconst 0, 1), (11, .invokestatic 92, 3), (14, .istore_n 2, 1), (15, .iload_n 3, 1), (16, .aload_n 0, 1), (17, .arraylength, 1), (18, .invokestatic 38, 3), (21, .istore_n 3, 1), (22, .iload_n 2, 1), (23, .iload_n 3, 1), (24, .if_icmp .lt 5, 3), (27, .iconst (-1), 1), (28, .ireturn, 1), (29, .aload_n 0, 1), (30, .iload_n 1, 1), (31, .iload_n 2, 1), (32, .iload_n 3, 1), (33, .invokestatic 95, 3), (36, .ireturn, 1)]
set_option maxRecDepth 100000 in
theorem gm_d44 : ∀ q ∈ gm_i44, decode prog_14_method_22_code q.1 = .ok q.2 := by decide +kernel
/-- java/lang/StringLatin1.canEncode(I)Z -/
def gm_i45 : List (Nat × Instr × Nat) := [(0, .iload_n 0, 1), (1, .ifCond .lt 14, 3), (4, .iload_n 0, 1), (5, .sipush 255, 3), (8, .if_icmp .gt 7, 3), (11, .iconst 1, 1), (12, .goto 4, 3), (15, .iconst 0, 1), (16, .ireturn, 1)]
set_option maxRecDepth 100000 in
theorem gm_d45 : ∀ q ∈ gm_i45, decode prog_14_method_4_code q.1 = .ok q.2 := by decide +kernel
/-- java/lang/StringLatin1.indexOfChar([BIII)I -/
def gm_i46 : List (Nat × Instr × Nat) := [(0, .iload_n 1, 1), (1, .i2b, 1), (2, .istore 4, 2), (4, .iload_n 2, 1), (5, .istore 5, 2), (7, .iload 5, 2), (9, .iload_n 3, 1), (10, .if_icmp .ge 21, 3), (13, .aload_n 0, 1), (14, .iload 5, 2), (16, .baload, 1), (17, .iload 4, 2), (19, .if_icmp .ne 6, 3), (22, .iload 5, 2), (24, .ireturn, 1), (25, .iinc 5 1, 3), (28, .goto (-21), 3), (31, .iconst (-1), 1), (32, .ireturn, 1)]
set_option maxRecDepth 100000 in
theorem gm_d46 : ∀ q ∈ gm_i46, decode prog_14_method_23_code q.1 = .ok q.2 := by decide +kernel
/-- GraphReader.letterFrom(IICI)I -/
def gm_i47 : List (Nat × Instr × Nat) := [(0, .iload_n 2, 1), (1, .iconst 1, 1), (2, .if_icmp .eq 5, 3), (5, .iconst (-1), 1), (6, .ireturn, 1), (7, .aload_n 0, 1), (8, .getfield 15, 3), (11, .iload_n 1, 1), (12, .baload, 1), (13, .iload_n 3, 1), (14, .isub, 1), (15, .istore 5, 2), (17, .iload 5, 2), (19, .iload 4, 2), (21, .if_icmp .ge 8, 3), (24, .iload 5, 2), (26, .goto 4, 3), (29, .iconst (-1), 1), (30, .ireturn, 1)]
set_option maxRecDepth 100000 in
theorem gm_d47 : ∀ q ∈ gm_i47, decode prog_1_method_23_code q.1 = .ok q.2 := by decide +kernel
/-- GraphReader.isText(I)Z -/
def gm_i48 : List (Nat × Instr × Nat) := [(0, .aload_n 0, 1), (1, .iload_n 1, 1), (2, .invokevirtual 131, 3), (5, .ifCond .eq 20, 3), (8, .aload_n 0, 1), (9, .getfield 21, 3), (12, .iload_n 1, 1), (13, .aaload, 1), (14, .getfield 134, 3), (17, .iconst 1, 1), (18, .if_icmp .ne 7, 3), (21, .iconst 1, 1), (22, .goto 4, 3), (25, .iconst 0, 1), (26, .ireturn, 1)]
set_option maxRecDepth 100000 in
theorem gm_d48 : ∀ q ∈ gm_i48, decode prog_1_method_50_code q.1 = .ok q.2 := by decide +kernel
/-- GraphReader.isInHeap(I)Z -/
def gm_i49 : List (Nat × Instr × Nat) := [(0, .iload_n 1, 1), (1, .ifCond .lt 15, 3), (4, .iload_n 1, 1), (5, .aload_n 0, 1), (6, .getfield 72, 3), (9, .if_icmp .ge 7, 3), (12, .iconst 1, 1), (13, .goto 4, 3), (16, .iconst 0, 1), (17, .ireturn, 1)]
set_option maxRecDepth 100000 in
theorem gm_d49 : ∀ q ∈ gm_i49, decode prog_1_method_15_code q.1 = .ok q.2 := by decide +kernel
/-- GraphReader.passRest(I)V -/
def gm_i50 : List (Nat × Instr × Nat) := [(0, .iconst 0, 1), (1, .istore_n 2, 1), (2, .iload_n 2, 1), (3, .sipush 700, 3), (6, .if_icmp .gt 77, 3), (9, .aload_n 0, 1), (10, .getfield 96, 3), (13, .aload_n 0, 1), (14, .getfield 93, 3), (17, .if_icmp .lt 10, 3), (20, .aload_n 0, 1), (21, .bipush (-3), 2), (23, .invokevirtual 160, 3), (26, .pop, 1), (27, .aload_n 0, 1), (28, .getfield 15, 3), (31, .aload_n 0, 1), (32, .getfield 96, 3), (35, .baload, 1), (36, .istore_n 3, 1), (37, .iload_n 3, 1), (38, .bipush 120, 2), (40, .if_icmp .ne 14, 3), (43, .aload_n 0, 1), (44, .dup, 1), (45, .getfield 96, 3), (48, .iconst 1, 1), (49, .iadd, 1), (50, .putfield 96, 3), (53, .return_, 1), (54, .iload_n 3, 1), (55, .invokestatic 125, 3), (58, .ifCond .eq 11, 3), (61, .aload_n 0, 1), (62, .invokevirtual 128, 3), (65, .pop, 1), (66, .goto 11, 3), (69, .aload_n 0, 1), (70, .iload_n 1, 1), (71, .iconst 1, 1), (72, .iadd, 1), (73, .invokevirtual 182, 3), (76, .pop, 1), (77, .iinc 2 1, 3), (80, .goto (-78), 3), (83, .return_, 1)]
set_option maxRecDepth 100000 in
theorem gm_d50 : ∀ q ∈ gm_i50, decode prog_1_method_26_code q.1 = .ok q.2 := by decide +kernel
/-- GraphReader.isBlock(I)Z -/
def gm_i51 : List (Nat × Instr × Nat) := [(0, .iload_n 0, 1), (1, .bipush 119, 2), (3, .if_icmp .eq 9, 3), (6, .iload_n 0, 1), (7, .bipush 122, 2), (9, .if_icmp .ne 7, 3), (12, .iconst 1, 1), (13, .goto 4, 3), (16, .iconst 0, 1), (17, .ireturn, 1)]
set_option maxRecDepth 100000 in
theorem gm_d51 : ∀ q ∈ gm_i51, decode prog_1_method_24_code q.1 = .ok q.2 := by decide +kernel
/-- GraphReader.skipBlock()I -/
def gm_i52 : List (Nat × Instr × Nat) := [(0, .aload_n 0, 1), (1, .invokevirtual 176, 3), (4, .bipush 119, 2), (6, .if_icmp .ne 10, 3), (9, .aload_n 0, 1), (10, .invokevirtual 176, 3), (13, .goto 7, 3), (16, .aload_n 0, 1), (17, .invokevirtual 179, 3), (20, .istore_n 1, 1), (21, .iload_n 1, 1), (22, .ifCond .ge 10, 3), (25, .aload_n 0, 1), (26, .bipush (-4), 2), (28, .invokevirtual 160, 3), (31, .ireturn, 1), (32, .iload_n 1, 1), (33, .aload_n 0, 1), (34, .getfield 93, 3), (37, .aload_n 0, 1), (38, .getfield 96, 3), (41, .isub, 1), (42, .if_icmp .le 10, 3), (45, .aload_n 0, 1), (46, .bipush (-3), 2), (48, .invokevirtual 160, 3), (51, .ireturn, 1), (52, .aload_n 0, 1), (53, .dup, 1), (54, .getfield 96, 3), (57, .iload_n 1, 1), (58, .iadd, 1), (59, .putfield 96, 3), (62, .iload_n 1, 1), (63, .ireturn, 1)]
set_option maxRecDepth 100000 in
theorem gm_d52 : ∀ q ∈ gm_i52, decode prog_1_method_25_code q.1 = .ok q.2 := by decide +kernel
/-- GraphReader$Descriptor.putUnder(LGraphReader$Descriptor;)V -/
def gm_i53 : List (Nat × Instr × Nat) := [(0, .aload_n 0, 1), (1, .aload_n 1, 1), (2, .putfield 39, 3), (5, .aload_n 0, 1), (6, .aload_n 1, 1), (7, .ifnonnull 7, 3), (10, .iconst 0, 1), (11, .goto 9, 3), (14, .aload_n 1, 1), (15, .getfield 43, 3), (18, .iconst 1, 1), (19, .iadd, 1), (20, .putfield 43, 3), (23, .return_, 1)]
set_option maxRecDepth 100000 in
theorem gm_d53 : ∀ q ∈ gm_i53, decode prog_2_method_5_code q.1 = .ok q.2 := by decide +kernel
/-- GraphReader.matchLocalClass(LGraphReader$Descriptor;)V -/
def gm_i54 : List (Nat × Instr × Nat) := [(0, .aload_n 1, 1), (1, .iconst 4, 1), (2, .invokevirtual 309, 3), (5, .ifCond .eq 10, 3), (8, .aload_n 0, 1), (9, .bipush (-5), 2), (11, .invokevirtual 160, 3), (14, .pop, 1), (15, .aload_n 1, 1), (16, .aload_n 0, 1), (17, .aload_n 0, 1), (18, .aload_n 1, 1), (19, .getfield 239, 3), (22, .aload_n 1, 1), (23, .getfield 242, 3), (26, .bipush 65, 2), (28, .bipush 6, 2), (30, .invokevirtual 356, 3), (33, .invokevirtual 64, 3), (36, .putfield 188, 3), (39, .aload_n 1, 1), (40, .getfield 188, 3), (43, .ifnull 21, 3), (46, .aload_n 1, 1), (47, .aload_n 1, 1), (48, .getfield 188, 3), (51, .invokevirtual 363, 3), (54, .ifCond .ne 10, 3), (57, .aload_n 0, 1), (58, .bipush (-5), 2), (60, .invokevirtual 160, 3), (63, .pop, 1), (64, .return_, 1)]
set_option maxRecDepth 100000 in
theorem gm_d54 : ∀ q ∈ gm_i54, decode prog_1_method_51_code q.1 = .ok q.2 := by decide +kernel
/-- GraphReader$Descriptor.fits(LGraphReader$LocalClass;)Z -/
def gm_i55 : List (Nat × Instr × Nat) := [(0, .aload_n 0, 1), (1, .invokevirtual 46, 3), (4, .aload_n 1, 1), (5, .getfield 50, 3), (8, .iconst 3, 1), (9, .if_icmp .ne 7, 3), (12, .iconst 1, 1), (13, .goto 4, 3), (16, .iconst 0, 1), (17, .if_icmp .eq 5, 3), (20, .iconst 0, 1), (21, .ireturn, 1), (22, .aload_n 0, 1), (23, .iconst 2, 1), (24, .invokevirtual 25, 3), (27, .ifCond .eq 22, 3), (30, .aload_n 1, 1), (31, .getfield 50, 3), (34, .ifCond .eq 15, 3), (37, .aload_n 1, 1), (38, .getfield 50, 3), (41, .iconst 3, 1), (42, .if_icmp .eq 7, 3), (45, .iconst 1, 1), (46, .goto 4, 3), (49, .iconst 0, 1), (50, .istore_n 2, 1), (51, .iload_n 2, 1), (52, .ifCond .eq 15, 3), (55, .aload_n 0, 1), (56, .getfield 18, 3), (59, .aload_n 1, 1), (60, .getfield 55, 3), (63, .lcmp, 1), (64, .ifCond .ne 15, 3), (67, .aload_n 0, 1), (68, .aload_n 1, 1), (69, .invokevirtual 56, 3), (72, .ifCond .eq 7, 3), (75, .iconst 1, 1), (76, .goto 4, 3), (79, .iconst 0, 1), (80, .ireturn, 1)]
set_option maxRecDepth 100000 in
theorem gm_d55 : ∀ q ∈ gm_i55, decode prog_2_method_7_code q.1 = .ok q.2 := by decide +kernel
/-- GraphReader$Descriptor.fieldsFit(LGraphReader$LocalClass;)Z -/
def gm_i56 : List (Nat × Instr × Nat) := [(0, .iconst 0, 1), (1, .istore_n 2, 1), (2, .iload_n 2, 1), (3, .aload_n 0, 1), (4, .getfield 29, 3), (7, .if_icmp .ge 63, 3), (10, .aload_n 1, 1), (11, .aload_n 0, 1), (12, .getfield 32, 3), (15, .iload_n 2, 1), (16, .iaload, 1), (17, .invokevirtual 60, 3), (20, .istore_n 3, 1), (21, .iload_n 3, 1), (22, .ifCond .lt 42, 3), (25, .aload_n 0, 1), (26, .getfield 36, 3), (29, .iload_n 2, 1), (30, .iaload, 1), (31, .aload_n 1, 1), (32, .getfield 64, 3), (35, .iload_n 3, 1), (36, .iaload, 1), (37, .if_icmp .eq 27, 3), (40, .aload_n 0, 1), (41, .getfield 36, 3), (44, .iload_n 2, 1), (45, .iaload, 1), (46, .bipush 6, 2), (48, .if_icmp .lt 14, 3), (51, .aload_n 1, 1), (52, .getfield 64, 3), (55, .iload_n 3, 1), (56, .iaload, 1), (57, .bipush 6, 2), (59, .if_icmp .ge 5, 3), (62, .iconst 0, 1), (63, .ireturn, 1), (64, .iinc 2 1, 3), (67, .goto (-65), 3), (70, .iconst 1, 1), (71, .ireturn, 1)]
set_option maxRecDepth 100000 in
theorem gm_d56 : ∀ q ∈ gm_i56, decode prog_2_method_8_code q.1 = .ok q.2 := by decide +kernel
/-- GraphReader.readInstance(I)I -/
def gm_i57 : List (Nat × Instr × Nat) := [(0, .aload_n 0, 1), (1, .iload_n 1, 1), (2, .invokevirtual 235, 3), (5, .astore_n 2, 1), (6, .aload_n 0, 1), (7, .aload_n 2, 1), (8, .iload_n 1, 1), (9, .iconst 0, 1), (10, .invokevirtual 252, 3), (13, .aload_n 2, 1), (14, .invokevirtual 256, 3), (17, .ifCond .eq 10, 3), (20, .aload_n 0, 1), (21, .bipush (-5), 2), (23, .invokevirtual 160, 3), (26, .ireturn, 1), (27, .aload_n 2, 1), (28, .getfield 188, 3), (31, .astore_n 3, 1), (32, .aload_n 3, 1), (33, .ifnonnull 10, 3), (36, .aload_n 0, 1), (37, .bipush (-9), 2), (39, .invokevirtual 160, 3), (42, .ireturn, 1), (43, .aload_n 3, 1), (44, .getfield 54, 3), (47, .ifCond .eq 11, 3), (50, .aload_n 3, 1), (51, .getfield 54, 3), (54, .iconst 3, 1), (55, .if_icmp .ne 10, 3), (58, .aload_n 0, 1), (59, .bipush (-5), 2), (61, .invokevirtual 160, 3), (64, .ireturn, 1), (65, .new 19, 3), (68, .dup, 1), (69, .iconst 0, 1), (70, .aload_n 3, 1), (71, .aload_n 3, 1), (72, .invokevirtual 267, 3), (75, .invokespecial 228, 3), (78, .astore 4, 2), (80, .aload_n 3, 1), (81, .aload 4, 2), (83, .getfield 147, 3), (86, .invokevirtual 270, 3), (89, .aload_n 0, 1), (90, .aload 4, 2), (92, .invokevirtual 231, 3), (95, .istore 5, 2), (97, .aload_n 0, 1), (98, .aload_n 3, 1), (99, .getfield 54, 3), (102, .iconst 4, 1), (103, .if_icmp .ne 8, 3), (106, .bipush (-2), 2), (108, .goto 5, 3), (111, .iload 5, 2), (113, .invokevirtual 222, 3), (116, .istore 6, 2), (118, .aload_n 2, 1), (119, .getfield 274, 3), (122, .istore 7, 2), (124, .iload 7, 2), (126, .ifCond .lt 22, 3), (129, .aload_n 0, 1), (130, .aload_n 2, 1), (131, .iload 7, 2), (133, .invokevirtual 277, 3), (136, .aload 4, 2), (138, .iload_n 1, 1), (139, .invokevirtual 280, 3), (142, .iinc 7 (-1), 3), (145, .goto (-21), 3), (148, .aload_n 3, 1), (149, .getfield 54, 3), (152, .iconst 4, 1), (153, .if_icmp .ne 18, 3), (156, .aload 4, 2), (158, .invokestatic 284, 3), (161, .ifCond .ne 10, 3), (164, .aload_n 0, 1), (165, .bipush (-6), 2), (167, .invokevirtual 160, 3), (170, .ireturn, 1), (171, .aload_n 0, 1), (172, .getfield 28, 3), (175, .getfield 215, 3), (178, .iload 6, 2), (180, .iload 5, 2), (182, .iastore, 1), (183, .iload 5, 2), (185, .ireturn, 1)]
set_option maxRecDepth 100000 in
theorem gm_d57 : ∀ q ∈ gm_i57, decode prog_1_method_40_code q.1 = .ok q.2 := by decide +kernel
/-- GraphReader.readPresentDescriptor(I)LGraphReader$Descriptor; -/
def gm_i58 : List (Nat × Instr × Nat) := [(0, .aload_n 0, 1), (1, .iload_n 1, 1), (2, .iconst 1, 1), (3, .invokevirtual 198, 3), (6, .astore_n 2, 1), (7, .aload_n 2, 1), (8, .ifnonnull 10, 3), (11, .aload_n 0, 1), (12, .bipush (-4), 2), (14, .invokevirtual 160, 3), (17, .pop, 1), (18, .aload_n 2, 1), (19, .areturn, 1)]
set_option maxRecDepth 100000 in
theorem gm_d58 : ∀ q ∈ gm_i58, decode prog_1_method_46_code q.1 = .ok q.2 := by decide +kernel
/-- GraphReader.askLimits(LGraphReader$Descriptor;II)V -/
def gm_i59 : List (Nat × Instr × Nat) := [(0, .aload_n 1, 1), (1, .getfield 188, 3), (4, .ifnull 17, 3), (7, .aload_n 1, 1), (8, .getfield 188, 3), (11, .getfield 86, 3), (14, .ifCond .eq 7, 3), (17, .iconst 1, 1), (18, .goto 4, 3), (21, .iconst 0, 1), (22, .istore 4, 2), (24, .iload 4, 2), (26, .ifCond .ne 44, 3), (29, .iload_n 2, 1), (30, .aload_n 0, 1), (31, .getfield 41, 3), (34, .if_icmp .gt 36, 3), (37, .aload_n 0, 1), (38, .getfield 28, 3), (41, .invokevirtual 156, 3), (44, .aload_n 0, 1), (45, .getfield 45, 3), (48, .if_icmp .gt 22, 3), (51, .iload_n 3, 1), (52, .aload_n 0, 1), (53, .getfield 48, 3), (56, .if_icmp .gt 14, 3), (59, .aload_n 0, 1), (60, .getfield 96, 3), (63, .aload_n 0, 1), (64, .getfield 51, 3), (67, .if_icmp .le 10, 3), (70, .aload_n 0, 1), (71, .bipush (-8), 2), (73, .invokevirtual 160, 3), (76, .pop, 1), (77, .return_, 1)]
set_option maxRecDepth 100000 in
theorem gm_d59 : ∀ q ∈ gm_i59, decode prog_1_method_30_code q.1 = .ok q.2 := by decide +kernel
