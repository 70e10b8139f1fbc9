section
/-! part 0: the code of every method -/
def zc_X11_init : List (Nat × ClassFile.Instr × Nat × Nat × List (Nat × Int × Nat)) := [(0, .aload_n 0, 1, 0, []), (1, .invokespecial 1, 3, 0, []), (4, .aload_n 0, 1, 0, []), (5, .new 7, 3, 0, []), (8, .dup, 1, 0, []), (9, .invokespecial 9, 3, 0, []), (12, .putfield 10, 3, 0, []), (15, .aload_n 0, 1, 0, []), (16, .iconst 2, 1, 0, []), (17, .anewarray 7, 3, 0, []), (20, .putfield 16, 3, 0, []), (23, .aload_n 0, 1, 0, []), (24, .new 20, 3, 0, []), (27, .dup, 1, 0, []), (28, .invokespecial 22, 3, 0, []), (31, .putfield 23, 3, 0, []), (34, .aload_n 0, 1, 0, []), (35, .new 27, 3, 0, []), (38, .dup, 1, 0, []), (39, .invokespecial 29, 3, 0, []), (42, .putfield 30, 3, 0, []), (45, .aload_n 0, 1, 0, []), (46, .new 34, 3, 0, []), (49, .dup, 1, 0, []), (50, .aload_n 0, 1, 0, []), (51, .getfield 30, 3, 0, []), (54, .aload_n 0, 1, 0, []), (55, .getfield 10, 3, 0, []), (58, .invokespecial 36, 3, 0, []), (61, .putfield 39, 3, 0, []), (64, .aload_n 0, 1, 0, []), (65, .new 43, 3, 0, []), (68, .dup, 1, 0, []), (69, .invokespecial 45, 3, 0, []), (72, .putfield 46, 3, 0, []), (75, .aload_n 0, 1, 0, []), (76, .new 50, 3, 0, []), (79, .dup, 1, 0, []), (80, .invokespecial 52, 3, 0, []), (83, .putfield 53, 3, 0, []), (86, .aload_n 0, 1, 0, []), (87, .new 57, 3, 0, []), (90, .dup, 1, 0, []), (91, .invokespecial 59, 3, 0, []), (94, .putfield 60, 3, 0, []), (97, .aload_n 0, 1, 0, []), (98, .new 64, 3, 0, []), (101, .dup, 1, 0, []), (102, .invokespecial 66, 3, 0, []), (105, .putfield 67, 3, 0, []), (108, .aload_n 0, 1, 0, []), (109, .new 71, 3, 0, []), (112, .dup, 1, 0, []), (113, .aload_n 0, 1, 0, []), (114, .getfield 67, 3, 0, []), (117, .invokespecial 73, 3, 0, []), (120, .putfield 76, 3, 0, []), (123, .aload_n 0, 1, 0, []), (124, .new 80, 3, 0, []), (127, .dup, 1, 0, []), (128, .invokespecial 82, 3, 0, []), (131, .putfield 83, 3, 0, []), (134, .aload_n 0, 1, 0, []), (135, .new 20, 3, 0, []), (138, .dup, 1, 0, []), (139, .invokespecial 22, 3, 0, []), (142, .putfield 87, 3, 0, []), (145, .aload_n 0, 1, 0, []), (146, .bipush 21, 2, 0, []), (148, .newarray .int, 2, 0, []), (150, .putfield 90, 3, 0, []), (153, .aload_n 0, 1, 0, []), (154, .iconst (-1), 1, 0, []), (155, .putfield 94, 3, 0, []), (158, .aload_n 0, 1, 0, []), (159, .iconst (-1), 1, 0, []), (160, .putfield 98, 3, 0, []), (163, .aload_n 0, 1, 0, []), (164, .new 80, 3, 0, []), (167, .dup, 1, 0, []), (168, .invokespecial 82, 3, 0, []), (171, .putfield 101, 3, 0, []), (174, .aload_n 0, 1, 0, []), (175, .iconst 5, 1, 0, []), (176, .newarray .int, 2, 0, []), (178, .putfield 104, 3, 0, []), (181, .return_, 1, 0, [])]
theorem zd_X11_init : ∀ q ∈ zc_X11_init, decode prog_1_method_1_code q.1 = .ok (q.2.1, q.2.2.1) := by decide +kernel
def zc_X9_init : List (Nat × ClassFile.Instr × Nat × Nat × List (Nat × Int × Nat)) := [(0, .aload_n 0, 1, 0, []), (1, .invokespecial 3, 3, 0, []), (4, .aload_n 0, 1, 0, []), (5, .bipush 64, 2, 0, []), (7, .newarray .int, 2, 0, []), (9, .putfield 9, 3, 0, []), (12, .aload_n 0, 1, 0, []), (13, .bipush 6, 2, 0, []), (15, .newarray .int, 2, 0, []), (17, .putfield 15, 3, 0, []), (20, .aload_n 0, 1, 0, []), (21, .bipush 10, 2, 0, []), (23, .newarray .int, 2, 0, []), (25, .putfield 18, 3, 0, []), (28, .aload_n 0, 1, 0, []), (29, .bipush 10, 2, 0, []), (31, .newarray .int, 2, 0, []), (33, .putfield 21, 3, 0, []), (36, .aload_n 0, 1, 0, []), (37, .bipush 10, 2, 0, []), (39, .newarray .int, 2, 0, []), (41, .putfield 24, 3, 0, []), (44, .aload_n 0, 1, 0, []), (45, .bipush 10, 2, 0, []), (47, .newarray .int, 2, 0, []), (49, .putfield 27, 3, 0, []), (52, .aload_n 0, 1, 0, []), (53, .bipush 10, 2, 0, []), (55, .newarray .int, 2, 0, []), (57, .putfield 30, 3, 0, []), (60, .aload_n 0, 1, 0, []), (61, .bipush 8, 2, 0, []), (63, .newarray .int, 2, 0, []), (65, .putfield 33, 3, 0, []), (68, .aload_n 0, 1, 0, []), (69, .bipush 8, 2, 0, []), (71, .newarray .int, 2, 0, []), (73, .putfield 36, 3, 0, []), (76, .aload_n 0, 1, 0, []), (77, .bipush 8, 2, 0, []), (79, .newarray .int, 2, 0, []), (81, .putfield 39, 3, 0, []), (84, .aload_n 0, 1, 0, []), (85, .bipush 6, 2, 0, []), (87, .anewarray 42, 3, 0, []), (90, .putfield 44, 3, 0, []), (93, .aload_n 0, 1, 0, []), (94, .iconst (-1), 1, 0, []), (95, .putfield 48, 3, 0, []), (98, .aload_n 0, 1, 0, []), (99, .bipush 7, 2, 0, []), (101, .putfield 52, 3, 0, []), (104, .aload_n 0, 1, 0, []), (105, .new 55, 3, 0, []), (108, .dup, 1, 0, []), (109, .invokespecial 57, 3, 0, []), (112, .putfield 58, 3, 0, []), (115, .return_, 1, 0, [])]
theorem zd_X9_init : ∀ q ∈ zc_X9_init, decode prog_11_method_1_code q.1 = .ok (q.2.1, q.2.2.1) := by decide +kernel
def zc_X2_init : List (Nat × ClassFile.Instr × Nat × Nat × List (Nat × Int × Nat)) := [(0, .aload_n 0, 1, 0, []), (1, .invokespecial 3, 3, 0, []), (4, .aload_n 0, 1, 0, []), (5, .bipush 6, 2, 0, []), (7, .newarray .int, 2, 0, []), (9, .putfield 9, 3, 0, []), (12, .aload_n 0, 1, 0, []), (13, .bipush 6, 2, 0, []), (15, .newarray .int, 2, 0, []), (17, .putfield 15, 3, 0, []), (20, .aload_n 0, 1, 0, []), (21, .bipush 10, 2, 0, []), (23, .newarray .int, 2, 0, []), (25, .putfield 18, 3, 0, []), (28, .aload_n 0, 1, 0, []), (29, .sipush 1000, 3, 0, []), (32, .putfield 21, 3, 0, []), (35, .aload_n 0, 1, 0, []), (36, .iconst (-1), 1, 0, []), (37, .putfield 25, 3, 0, []), (40, .return_, 1, 0, [])]
theorem zd_X2_init : ∀ q ∈ zc_X2_init, decode prog_4_method_1_code q.1 = .ok (q.2.1, q.2.2.1) := by decide +kernel
def zc_X10_init : List (Nat × ClassFile.Instr × Nat × Nat × List (Nat × Int × Nat)) := [(0, .aload_n 0, 1, 0, []), (1, .invokespecial 3, 3, 0, []), (4, .aload_n 0, 1, 0, []), (5, .bipush 16, 2, 0, []), (7, .newarray .int, 2, 0, []), (9, .putfield 11, 3, 0, []), (12, .aload_n 0, 1, 0, []), (13, .sipush 416, 3, 0, []), (16, .newarray .int, 2, 0, []), (18, .putfield 17, 3, 0, []), (21, .return_, 1, 0, [])]
theorem zd_X10_init : ∀ q ∈ zc_X10_init, decode prog_12_method_1_code q.1 = .ok (q.2.1, q.2.2.1) := by decide +kernel
def zc_X6_init : List (Nat × ClassFile.Instr × Nat × Nat × List (Nat × Int × Nat)) := [(0, .aload_n 0, 1, 0, []), (1, .invokespecial 3, 3, 0, []), (4, .aload_n 0, 1, 0, []), (5, .bipush 9, 2, 0, []), (7, .newarray .int, 2, 0, []), (9, .putfield 11, 3, 0, []), (12, .aload_n 0, 1, 0, []), (13, .bipush 64, 2, 0, []), (15, .newarray .long, 2, 0, []), (17, .putfield 15, 3, 0, []), (20, .return_, 1, 0, [])]
theorem zd_X6_init : ∀ q ∈ zc_X6_init, decode prog_8_method_1_code q.1 = .ok (q.2.1, q.2.2.1) := by decide +kernel
def zc_X0_init : List (Nat × ClassFile.Instr × Nat × Nat × List (Nat × Int × Nat)) := [(0, .aload_n 0, 1, 0, []), (1, .invokespecial 3, 3, 0, []), (4, .aload_n 0, 1, 0, []), (5, .bipush 24, 2, 0, []), (7, .newarray .int, 2, 0, []), (9, .putfield 9, 3, 0, []), (12, .aload_n 0, 1, 0, []), (13, .bipush 10, 2, 0, []), (15, .newarray .int, 2, 0, []), (17, .putfield 15, 3, 0, []), (20, .aload_n 0, 1, 0, []), (21, .bipush 10, 2, 0, []), (23, .newarray .int, 2, 0, []), (25, .putfield 18, 3, 0, []), (28, .aload_n 0, 1, 0, []), (29, .aload_n 1, 1, 0, []), (30, .putfield 21, 3, 0, []), (33, .aload_n 0, 1, 0, []), (34, .aload_n 2, 1, 0, []), (35, .putfield 25, 3, 0, []), (38, .aload_n 0, 1, 0, []), (39, .aload_n 2, 1, 0, []), (40, .getfield 29, 3, 0, []), (43, .putfield 35, 3, 0, []), (46, .return_, 1, 0, [])]
theorem zd_X0_init : ∀ q ∈ zc_X0_init, decode prog_2_method_1_code q.1 = .ok (q.2.1, q.2.2.1) := by decide +kernel
def zc_X3_init : List (Nat × ClassFile.Instr × Nat × Nat × List (Nat × Int × Nat)) := [(0, .aload_n 0, 1, 0, []), (1, .invokespecial 3, 3, 0, []), (4, .aload_n 0, 1, 0, []), (5, .bipush 6, 2, 0, []), (7, .newarray .int, 2, 0, []), (9, .putfield 11, 3, 0, []), (12, .aload_n 0, 1, 0, []), (13, .bipush 24, 2, 0, []), (15, .newarray .int, 2, 0, []), (17, .putfield 15, 3, 0, []), (20, .aload_n 0, 1, 0, []), (21, .bipush 10, 2, 0, []), (23, .newarray .int, 2, 0, []), (25, .putfield 18, 3, 0, []), (28, .aload_n 0, 1, 0, []), (29, .bipush 10, 2, 0, []), (31, .newarray .int, 2, 0, []), (33, .putfield 21, 3, 0, []), (36, .aload_n 0, 1, 0, []), (37, .bipush 6, 2, 0, []), (39, .newarray .int, 2, 0, []), (41, .putfield 24, 3, 0, []), (44, .return_, 1, 0, [])]
theorem zd_X3_init : ∀ q ∈ zc_X3_init, decode prog_5_method_1_code q.1 = .ok (q.2.1, q.2.2.1) := by decide +kernel
def zc_X4_init : List (Nat × ClassFile.Instr × Nat × Nat × List (Nat × Int × Nat)) := [(0, .aload_n 0, 1, 0, []), (1, .invokespecial 5, 3, 0, []), (4, .aload_n 0, 1, 0, []), (5, .bipush 64, 2, 0, []), (7, .newarray .int, 2, 0, []), (9, .putfield 11, 3, 0, []), (12, .aload_n 0, 1, 0, []), (13, .sipush 2048, 3, 0, []), (16, .newarray .int, 2, 0, []), (18, .putfield 15, 3, 0, []), (21, .return_, 1, 0, [])]
theorem zd_X4_init : ∀ q ∈ zc_X4_init, decode prog_6_method_1_code q.1 = .ok (q.2.1, q.2.2.1) := by decide +kernel
def zc_X1_init : List (Nat × ClassFile.Instr × Nat × Nat × List (Nat × Int × Nat)) := [(0, .aload_n 0, 1, 0, []), (1, .invokespecial 3, 3, 0, []), (4, .aload_n 0, 1, 0, []), (5, .new 9, 3, 0, []), (8, .dup, 1, 0, []), (9, .invokespecial 11, 3, 0, []), (12, .putfield 12, 3, 0, []), (15, .aload_n 0, 1, 0, []), (16, .iconst (-1), 1, 0, []), (17, .putfield 18, 3, 0, []), (20, .return_, 1, 0, [])]
theorem zd_X1_init : ∀ q ∈ zc_X1_init, decode prog_3_method_1_code q.1 = .ok (q.2.1, q.2.2.1) := by decide +kernel
def zc_X7_init : List (Nat × ClassFile.Instr × Nat × Nat × List (Nat × Int × Nat)) := [(0, .aload_n 0, 1, 0, []), (1, .invokespecial 3, 3, 0, []), (4, .aload_n 0, 1, 0, []), (5, .sipush 400, 3, 0, []), (8, .newarray .int, 2, 0, []), (10, .putfield 11, 3, 0, []), (13, .return_, 1, 0, [])]
theorem zd_X7_init : ∀ q ∈ zc_X7_init, decode prog_9_method_1_code q.1 = .ok (q.2.1, q.2.2.1) := by decide +kernel
def zc_X5_init : List (Nat × ClassFile.Instr × Nat × Nat × List (Nat × Int × Nat)) := [(0, .aload_n 0, 1, 0, []), (1, .invokespecial 5, 3, 0, []), (4, .aload_n 0, 1, 0, []), (5, .new 11, 3, 0, []), (8, .dup, 1, 0, []), (9, .bipush 12, 2, 0, []), (11, .sipush 872, 3, 0, []), (14, .invokespecial 13, 3, 0, []), (17, .putfield 16, 3, 0, []), (20, .aload_n 0, 1, 0, []), (21, .iconst (-1), 1, 0, []), (22, .putfield 20, 3, 0, []), (25, .aload_n 0, 1, 0, []), (26, .aload_n 1, 1, 0, []), (27, .putfield 24, 3, 0, []), (30, .return_, 1, 0, [])]
theorem zd_X5_init : ∀ q ∈ zc_X5_init, decode prog_7_method_1_code q.1 = .ok (q.2.1, q.2.2.1) := by decide +kernel
def zc_X8_init : List (Nat × ClassFile.Instr × Nat × Nat × List (Nat × Int × Nat)) := [(0, .aload_n 0, 1, 0, []), (1, .invokespecial 7, 3, 0, []), (4, .iconst 0, 1, 0, []), (5, .bipush 12, 2, 0, []), (7, .iload_n 1, 1, 0, []), (8, .invokestatic 13, 3, 0, []), (11, .invokestatic 19, 3, 0, []), (14, .istore_n 3, 1, 0, []), (15, .aload_n 0, 1, 0, []), (16, .iload_n 3, 1, 0, []), (17, .newarray .int, 2, 0, []), (19, .putfield 22, 3, 0, []), (22, .aload_n 0, 1, 0, []), (23, .iload_n 3, 1, 0, []), (24, .newarray .int, 2, 0, []), (26, .putfield 26, 3, 0, []), (29, .aload_n 0, 1, 0, []), (30, .iload_n 3, 1, 0, []), (31, .newarray .int, 2, 0, []), (33, .putfield 29, 3, 0, []), (36, .aload_n 0, 1, 0, []), (37, .iload_n 3, 1, 0, []), (38, .newarray .int, 2, 0, []), (40, .putfield 32, 3, 0, []), (43, .aload_n 0, 1, 0, []), (44, .iload_n 3, 1, 0, []), (45, .newarray .int, 2, 0, []), (47, .putfield 35, 3, 0, []), (50, .aload_n 0, 1, 0, []), (51, .iconst 0, 1, 0, []), (52, .sipush 872, 3, 0, []), (55, .iload_n 2, 1, 0, []), (56, .invokestatic 13, 3, 0, []), (59, .invokestatic 19, 3, 0, []), (62, .newarray .int, 2, 0, []), (64, .putfield 38, 3, 0, []), (67, .return_, 1, 0, [])]
theorem zd_X8_init : ∀ q ∈ zc_X8_init, decode prog_10_method_1_code q.1 = .ok (q.2.1, q.2.2.1) := by decide +kernel
def zc_J9_min_7cf53 : List (Nat × ClassFile.Instr × Nat × Nat × List (Nat × Int × Nat)) := [(0, .iload_n 0, 1, 0, []), (1, .iload_n 1, 1, 0, []), (2, .if_icmp .gt 7, 3, 0, []), (5, .iload_n 0, 1, 0, []), (6, .goto 4, 3, 0, []), (9, .iload_n 1, 1, 0, []), (10, .ireturn, 1, 0, [])]
theorem zd_J9_min_7cf53 : ∀ q ∈ zc_J9_min_7cf53, decode prog_16_method_69_code q.1 = .ok (q.2.1, q.2.2.1) := by decide +kernel
def zc_J9_max_7cf53 : List (Nat × ClassFile.Instr × Nat × Nat × List (Nat × Int × Nat)) := [(0, .iload_n 0, 1, 0, []), (1, .iload_n 1, 1, 0, []), (2, .if_icmp .lt 7, 3, 0, []), (5, .iload_n 0, 1, 0, []), (6, .goto 4, 3, 0, []), (9, .iload_n 1, 1, 0, []), (10, .ireturn, 1, 0, [])]
theorem zd_J9_max_7cf53 : ∀ q ∈ zc_J9_max_7cf53, decode prog_16_method_65_code q.1 = .ok (q.2.1, q.2.2.1) := by decide +kernel
def zc_X11_road : List (Nat × ClassFile.Instr × Nat × Nat × List (Nat × Int × Nat)) := [(0, .iload_n 1, 1, 0, []), (1, .iconst 0, 1, 0, []), (2, .bipush 7, 2, 0, []), (4, .invokestatic 107, 3, 0, []), (7, .ifCond .eq 28, 3, 0, []), (10, .iload_n 2, 1, 0, []), (11, .iconst 0, 1, 0, []), (12, .bipush 7, 2, 0, []), (14, .invokestatic 107, 3, 0, []), (17, .ifCond .eq 18, 3, 0, []), (20, .iload_n 1, 1, 0, []), (21, .iload_n 2, 1, 0, []), (22, .if_icmp .eq 13, 3, 0, []), (25, .iload_n 3, 1, 0, []), (26, .iconst 0, 1, 0, []), (27, .bipush 99, 2, 0, []), (29, .invokestatic 107, 3, 0, []), (32, .ifCond .ne 9, 3, 0, []), (35, .aload_n 0, 1, 0, []), (36, .iconst (-1), 1, 0, []), (37, .invokevirtual 111, 3, 0, []), (40, .ireturn, 1, 0, []), (41, .aload_n 0, 1, 0, []), (42, .getfield 10, 3, 0, []), (45, .getfield 115, 3, 0, []), (48, .iload_n 1, 1, 0, []), (49, .bipush 8, 2, 0, []), (51, .imul, 1, 0, []), (52, .iload_n 2, 1, 0, []), (53, .iadd, 1, 0, []), (54, .iaload, 1, 0, []), (55, .istore 4, 2, 0, []), (57, .aload_n 0, 1, 0, []), (58, .getfield 10, 3, 0, []), (61, .getfield 115, 3, 0, []), (64, .iload_n 1, 1, 0, []), (65, .bipush 8, 2, 0, []), (67, .imul, 1, 0, []), (68, .iload_n 2, 1, 0, []), (69, .iadd, 1, 0, []), (70, .iload_n 3, 1, 0, []), (71, .iastore, 1, 0, []), (72, .aload_n 0, 1, 0, []), (73, .getfield 10, 3, 0, []), (76, .getfield 115, 3, 0, []), (79, .iload_n 2, 1, 0, []), (80, .bipush 8, 2, 0, []), (82, .imul, 1, 0, []), (83, .iload_n 1, 1, 0, []), (84, .iadd, 1, 0, []), (85, .iload_n 3, 1, 0, []), (86, .iastore, 1, 0, []), (87, .aload_n 0, 1, 0, []), (88, .iload 4, 2, 0, []), (90, .invokevirtual 118, 3, 0, []), (93, .ireturn, 1, 0, [])]
theorem zd_X11_road : ∀ q ∈ zc_X11_road, decode prog_1_method_2_code q.1 = .ok (q.2.1, q.2.2.1) := by decide +kernel
def zc_X11_isWithin : List (Nat × ClassFile.Instr × Nat × Nat × List (Nat × Int × Nat)) := [(0, .iload_n 0, 1, 0, []), (1, .iload_n 1, 1, 0, []), (2, .if_icmp .lt 12, 3, 0, []), (5, .iload_n 0, 1, 0, []), (6, .iload_n 2, 1, 0, []), (7, .if_icmp .gt 7, 3, 0, []), (10, .iconst 1, 1, 0, []), (11, .goto 4, 3, 0, []), (14, .iconst 0, 1, 0, []), (15, .ireturn, 1, 0, [])]
theorem zd_X11_isWithin : ∀ q ∈ zc_X11_isWithin, decode prog_1_method_55_code q.1 = .ok (q.2.1, q.2.2.1) := by decide +kernel
def zc_X11_refused : List (Nat × ClassFile.Instr × Nat × Nat × List (Nat × Int × Nat)) := [(0, .aload_n 0, 1, 0, []), (1, .iload_n 1, 1, 0, []), (2, .putfield 438, 3, 0, []), (5, .iload_n 1, 1, 0, []), (6, .tableswitch 103 (-6) (-1) #[90, 77, 103, 64, 51, 38], 38, 0, []), (44, .aload_n 0, 1, 0, []), (45, .getfield 104, 3, 0, []), (48, .iconst 0, 1, 0, []), (49, .dup2, 1, 0, []), (50, .iaload, 1, 0, []), (51, .iconst 1, 1, 0, []), (52, .iadd, 1, 0, []), (53, .iastore, 1, 0, []), (54, .goto 55, 3, 0, []), (57, .aload_n 0, 1, 0, []), (58, .getfield 104, 3, 0, []), (61, .iconst 1, 1, 0, []), (62, .dup2, 1, 0, []), (63, .iaload, 1, 0, []), (64, .iconst 1, 1, 0, []), (65, .iadd, 1, 0, []), (66, .iastore, 1, 0, []), (67, .goto 42, 3, 0, []), (70, .aload_n 0, 1, 0, []), (71, .getfield 104, 3, 0, []), (74, .iconst 2, 1, 0, []), (75, .dup2, 1, 0, []), (76, .iaload, 1, 0, []), (77, .iconst 1, 1, 0, []), (78, .iadd, 1, 0, []), (79, .iastore, 1, 0, []), (80, .goto 29, 3, 0, []), (83, .aload_n 0, 1, 0, []), (84, .getfield 104, 3, 0, []), (87, .iconst 3, 1, 0, []), (88, .dup2, 1, 0, []), (89, .iaload, 1, 0, []), (90, .iconst 1, 1, 0, []), (91, .iadd, 1, 0, []), (92, .iastore, 1, 0, []), (93, .goto 16, 3, 0, []), (96, .aload_n 0, 1, 0, []), (97, .getfield 104, 3, 0, []), (100, .iconst 4, 1, 0, []), (101, .dup2, 1, 0, []), (102, .iaload, 1, 0, []), (103, .iconst 1, 1, 0, []), (104, .iadd, 1, 0, []), (105, .iastore, 1, 0, []), (106, .goto 3, 3, 0, []), (109, .iload_n 1, 1, 0, []), (110, .ireturn, 1, 0, [])]
theorem zd_X11_refused : ∀ q ∈ zc_X11_refused, decode prog_1_method_52_code q.1 = .ok (q.2.1, q.2.2.1) := by decide +kernel
def zc_X11_answered : List (Nat × ClassFile.Instr × Nat × Nat × List (Nat × Int × Nat)) := [(0, .aload_n 0, 1, 0, []), (1, .iconst 0, 1, 0, []), (2, .putfield 438, 3, 0, []), (5, .iload_n 1, 1, 0, []), (6, .ireturn, 1, 0, [])]
theorem zd_X11_answered : ∀ q ∈ zc_X11_answered, decode prog_1_method_51_code q.1 = .ok (q.2.1, q.2.2.1) := by decide +kernel
def zc_X11_person : List (Nat × ClassFile.Instr × Nat × Nat × List (Nat × Int × Nat)) := [(0, .iload_n 1, 1, 0, []), (1, .iconst 0, 1, 0, []), (2, .bipush 9, 2, 0, []), (4, .invokestatic 107, 3, 0, []), (7, .ifCond .eq 13, 3, 0, []), (10, .iload_n 2, 1, 0, []), (11, .iconst 0, 1, 0, []), (12, .bipush 7, 2, 0, []), (14, .invokestatic 107, 3, 0, []), (17, .ifCond .ne 9, 3, 0, []), (20, .aload_n 0, 1, 0, []), (21, .iconst (-1), 1, 0, []), (22, .invokevirtual 111, 3, 0, []), (25, .ireturn, 1, 0, []), (26, .aload_n 0, 1, 0, []), (27, .getfield 10, 3, 0, []), (30, .getfield 121, 3, 0, []), (33, .bipush 6, 2, 0, []), (35, .if_icmp .lt 10, 3, 0, []), (38, .aload_n 0, 1, 0, []), (39, .bipush (-5), 2, 0, []), (41, .invokevirtual 111, 3, 0, []), (44, .ireturn, 1, 0, []), (45, .aload_n 0, 1, 0, []), (46, .getfield 23, 3, 0, []), (49, .invokevirtual 124, 3, 0, []), (52, .aload_n 0, 1, 0, []), (53, .aload_n 0, 1, 0, []), (54, .getfield 10, 3, 0, []), (57, .iload_n 1, 1, 0, []), (58, .iload_n 2, 1, 0, []), (59, .invokevirtual 127, 3, 0, []), (62, .invokevirtual 118, 3, 0, []), (65, .ireturn, 1, 0, [])]
theorem zd_X11_person : ∀ q ∈ zc_X11_person, decode prog_1_method_3_code q.1 = .ok (q.2.1, q.2.2.1) := by decide +kernel
def zc_X10_clear : List (Nat × ClassFile.Instr × Nat × Nat × List (Nat × Int × Nat)) := [(0, .aload_n 0, 1, 0, []), (1, .iconst 0, 1, 0, []), (2, .putfield 20, 3, 0, []), (5, .return_, 1, 0, [])]
theorem zd_X10_clear : ∀ q ∈ zc_X10_clear, decode prog_12_method_2_code q.1 = .ok (q.2.1, q.2.2.1) := by decide +kernel
def zc_X9_addPerson : List (Nat × ClassFile.Instr × Nat × Nat × List (Nat × Int × Nat)) := [(0, .aload_n 0, 1, 0, []), (1, .getfield 68, 3, 0, []), (4, .istore_n 3, 1, 0, []), (5, .iload_n 3, 1, 0, []), (6, .bipush 6, 2, 0, []), (8, .if_icmp .lt 5, 3, 0, []), (11, .iconst (-1), 1, 0, []), (12, .ireturn, 1, 0, []), (13, .aload_n 0, 1, 0, []), (14, .getfield 58, 3, 0, []), (17, .getfield 97, 3, 0, []), (20, .iload_n 3, 1, 0, []), (21, .iload_n 1, 1, 0, []), (22, .iastore, 1, 0, []), (23, .aload_n 0, 1, 0, []), (24, .getfield 58, 3, 0, []), (27, .getfield 100, 3, 0, []), (30, .iload_n 3, 1, 0, []), (31, .iconst 0, 1, 0, []), (32, .iastore, 1, 0, []), (33, .aload_n 0, 1, 0, []), (34, .getfield 15, 3, 0, []), (37, .iload_n 3, 1, 0, []), (38, .iload_n 2, 1, 0, []), (39, .iastore, 1, 0, []), (40, .aload_n 0, 1, 0, []), (41, .dup, 1, 0, []), (42, .getfield 68, 3, 0, []), (45, .iconst 1, 1, 0, []), (46, .iadd, 1, 0, []), (47, .putfield 68, 3, 0, []), (50, .iload_n 3, 1, 0, []), (51, .ireturn, 1, 0, [])]
theorem zd_X9_addPerson : ∀ q ∈ zc_X9_addPerson, decode prog_11_method_7_code q.1 = .ok (q.2.1, q.2.2.1) := by decide +kernel
def zc_X11_oil : List (Nat × ClassFile.Instr × Nat × Nat × List (Nat × Int × Nat)) := [(0, .iload_n 2, 1, 0, []), (1, .iconst 0, 1, 0, []), (2, .bipush 9, 2, 0, []), (4, .invokestatic 107, 3, 0, []), (7, .ifCond .ne 9, 3, 0, []), (10, .aload_n 0, 1, 0, []), (11, .iconst (-1), 1, 0, []), (12, .invokevirtual 111, 3, 0, []), (15, .ireturn, 1, 0, []), (16, .aload_n 0, 1, 0, []), (17, .getfield 10, 3, 0, []), (20, .iload_n 1, 1, 0, []), (21, .invokevirtual 131, 3, 0, []), (24, .ifCond .ne 10, 3, 0, []), (27, .aload_n 0, 1, 0, []), (28, .bipush (-2), 2, 0, []), (30, .invokevirtual 111, 3, 0, []), (33, .ireturn, 1, 0, []), (34, .aload_n 0, 1, 0, []), (35, .getfield 10, 3, 0, []), (38, .getfield 135, 3, 0, []), (41, .getfield 138, 3, 0, []), (44, .iload_n 1, 1, 0, []), (45, .iaload, 1, 0, []), (46, .istore_n 3, 1, 0, []), (47, .aload_n 0, 1, 0, []), (48, .getfield 10, 3, 0, []), (51, .getfield 135, 3, 0, []), (54, .getfield 138, 3, 0, []), (57, .iload_n 1, 1, 0, []), (58, .iload_n 2, 1, 0, []), (59, .iastore, 1, 0, []), (60, .aload_n 0, 1, 0, []), (61, .getfield 23, 3, 0, []), (64, .invokevirtual 124, 3, 0, []), (67, .aload_n 0, 1, 0, []), (68, .iload_n 3, 1, 0, []), (69, .invokevirtual 118, 3, 0, []), (72, .ireturn, 1, 0, [])]
theorem zd_X11_oil : ∀ q ∈ zc_X11_oil, decode prog_1_method_4_code q.1 = .ok (q.2.1, q.2.2.1) := by decide +kernel
def zc_X9_hasPerson : List (Nat × ClassFile.Instr × Nat × Nat × List (Nat × Int × Nat)) := [(0, .iload_n 1, 1, 0, []), (1, .ifCond .lt 21, 3, 0, []), (4, .iload_n 1, 1, 0, []), (5, .aload_n 0, 1, 0, []), (6, .getfield 68, 3, 0, []), (9, .if_icmp .ge 13, 3, 0, []), (12, .iload_n 1, 1, 0, []), (13, .bipush 6, 2, 0, []), (15, .if_icmp .ge 7, 3, 0, []), (18, .iconst 1, 1, 0, []), (19, .goto 4, 3, 0, []), (22, .iconst 0, 1, 0, []), (23, .ireturn, 1, 0, [])]
theorem zd_X9_hasPerson : ∀ q ∈ zc_X9_hasPerson, decode prog_11_method_3_code q.1 = .ok (q.2.1, q.2.2.1) := by decide +kernel
def zc_X11_of : List (Nat × ClassFile.Instr × Nat × Nat × List (Nat × Int × Nat)) := [(0, .aload_n 0, 1, 0, []), (1, .getfield 10, 3, 0, []), (4, .iload_n 1, 1, 0, []), (5, .invokevirtual 131, 3, 0, []), (8, .ifCond .ne 5, 3, 0, []), (11, .iconst (-1), 1, 0, []), (12, .ireturn, 1, 0, []), (13, .iload_n 2, 1, 0, []), (14, .tableswitch 75 0 3 #[30, 43, 53, 66], 30, 0, []), (44, .aload_n 0, 1, 0, []), (45, .getfield 10, 3, 0, []), (48, .getfield 135, 3, 0, []), (51, .getfield 138, 3, 0, []), (54, .iload_n 1, 1, 0, []), (55, .iaload, 1, 0, []), (56, .ireturn, 1, 0, []), (57, .aload_n 0, 1, 0, []), (58, .getfield 10, 3, 0, []), (61, .getfield 141, 3, 0, []), (64, .iload_n 1, 1, 0, []), (65, .iaload, 1, 0, []), (66, .ireturn, 1, 0, []), (67, .aload_n 0, 1, 0, []), (68, .getfield 10, 3, 0, []), (71, .getfield 135, 3, 0, []), (74, .getfield 144, 3, 0, []), (77, .iload_n 1, 1, 0, []), (78, .iaload, 1, 0, []), (79, .ireturn, 1, 0, []), (80, .aload_n 0, 1, 0, []), (81, .getfield 10, 3, 0, []), (84, .iload_n 1, 1, 0, []), (85, .invokevirtual 147, 3, 0, []), (88, .ireturn, 1, 0, []), (89, .iconst (-1), 1, 0, []), (90, .ireturn, 1, 0, [])]
theorem zd_X11_of : ∀ q ∈ zc_X11_of, decode prog_1_method_5_code q.1 = .ok (q.2.1, q.2.2.1) := by decide +kernel
def zc_X9_worksLeft : List (Nat × ClassFile.Instr × Nat × Nat × List (Nat × Int × Nat)) := [(0, .iconst 0, 1, 0, []), (1, .istore_n 2, 1, 0, []), (2, .iconst 0, 1, 0, []), (3, .istore_n 3, 1, 0, []), (4, .iload_n 3, 1, 0, []), (5, .aload_n 0, 1, 0, []), (6, .getfield 71, 3, 0, []), (9, .if_icmp .ge 36, 3, 0, []), (12, .iload_n 3, 1, 0, []), (13, .bipush 10, 2, 0, []), (15, .if_icmp .ge 30, 3, 0, []), (18, .aload_n 0, 1, 0, []), (19, .getfield 18, 3, 0, []), (22, .iload_n 3, 1, 0, []), (23, .iaload, 1, 0, []), (24, .iload_n 1, 1, 0, []), (25, .if_icmp .ne 14, 3, 0, []), (28, .aload_n 0, 1, 0, []), (29, .iload_n 3, 1, 0, []), (30, .invokevirtual 94, 3, 0, []), (33, .ifCond .ne 6, 3, 0, []), (36, .iinc 2 1, 3, 0, []), (39, .iinc 3 1, 3, 0, []), (42, .goto (-38), 3, 0, []), (45, .iload_n 2, 1, 0, []), (46, .ireturn, 1, 0, [])]
theorem zd_X9_worksLeft : ∀ q ∈ zc_X9_worksLeft, decode prog_11_method_6_code q.1 = .ok (q.2.1, q.2.2.1) := by decide +kernel
def zc_X9_isDone : List (Nat × ClassFile.Instr × Nat × Nat × List (Nat × Int × Nat)) := [(0, .aload_n 0, 1, 0, []), (1, .iload_n 1, 1, 0, []), (2, .invokevirtual 87, 3, 0, []), (5, .ifCond .eq 25, 3, 0, []), (8, .aload_n 0, 1, 0, []), (9, .getfield 58, 3, 0, []), (12, .getfield 91, 3, 0, []), (15, .iload_n 1, 1, 0, []), (16, .iaload, 1, 0, []), (17, .aload_n 0, 1, 0, []), (18, .getfield 21, 3, 0, []), (21, .iload_n 1, 1, 0, []), (22, .iaload, 1, 0, []), (23, .if_icmp .lt 7, 3, 0, []), (26, .iconst 1, 1, 0, []), (27, .goto 4, 3, 0, []), (30, .iconst 0, 1, 0, []), (31, .ireturn, 1, 0, [])]
theorem zd_X9_isDone : ∀ q ∈ zc_X9_isDone, decode prog_11_method_5_code q.1 = .ok (q.2.1, q.2.2.1) := by decide +kernel
def zc_X9_hasWork : List (Nat × ClassFile.Instr × Nat × Nat × List (Nat × Int × Nat)) := [(0, .iload_n 1, 1, 0, []), (1, .ifCond .lt 21, 3, 0, []), (4, .iload_n 1, 1, 0, []), (5, .aload_n 0, 1, 0, []), (6, .getfield 71, 3, 0, []), (9, .if_icmp .ge 13, 3, 0, []), (12, .iload_n 1, 1, 0, []), (13, .bipush 10, 2, 0, []), (15, .if_icmp .ge 7, 3, 0, []), (18, .iconst 1, 1, 0, []), (19, .goto 4, 3, 0, []), (22, .iconst 0, 1, 0, []), (23, .ireturn, 1, 0, [])]
theorem zd_X9_hasWork : ∀ q ∈ zc_X9_hasWork, decode prog_11_method_4_code q.1 = .ok (q.2.1, q.2.2.1) := by decide +kernel
def zc_X11_work : List (Nat × ClassFile.Instr × Nat × Nat × List (Nat × Int × Nat)) := [(0, .iload_n 2, 1, 0, []), (1, .iconst 1, 1, 0, []), (2, .sipush 600, 3, 0, []), (5, .invokestatic 107, 3, 0, []), (8, .ifCond .eq 24, 3, 0, []), (11, .iload_n 3, 1, 0, []), (12, .iconst 0, 1, 0, []), (13, .bipush 23, 2, 0, []), (15, .invokestatic 107, 3, 0, []), (18, .ifCond .eq 14, 3, 0, []), (21, .iload 4, 2, 0, []), (23, .iconst 1, 1, 0, []), (24, .bipush 99, 2, 0, []), (26, .invokestatic 107, 3, 0, []), (29, .ifCond .ne 9, 3, 0, []), (32, .aload_n 0, 1, 0, []), (33, .iconst (-1), 1, 0, []), (34, .invokevirtual 111, 3, 0, []), (37, .ireturn, 1, 0, []), (38, .aload_n 0, 1, 0, []), (39, .getfield 10, 3, 0, []), (42, .iload_n 1, 1, 0, []), (43, .invokevirtual 131, 3, 0, []), (46, .ifCond .eq 21, 3, 0, []), (49, .iload 5, 2, 0, []), (51, .iconst (-1), 1, 0, []), (52, .if_icmp .eq 22, 3, 0, []), (55, .aload_n 0, 1, 0, []), (56, .getfield 10, 3, 0, []), (59, .iload 5, 2, 0, []), (61, .invokevirtual 150, 3, 0, []), (64, .ifCond .ne 10, 3, 0, []), (67, .aload_n 0, 1, 0, []), (68, .bipush (-2), 2, 0, []), (70, .invokevirtual 111, 3, 0, []), (73, .ireturn, 1, 0, []), (74, .aload_n 0, 1, 0, []), (75, .getfield 10, 3, 0, []), (78, .getfield 153, 3, 0, []), (81, .bipush 10, 2, 0, []), (83, .if_icmp .lt 10, 3, 0, []), (86, .aload_n 0, 1, 0, []), (87, .bipush (-5), 2, 0, []), (89, .invokevirtual 111, 3, 0, []), (92, .ireturn, 1, 0, []), (93, .aload_n 0, 1, 0, []), (94, .getfield 23, 3, 0, []), (97, .invokevirtual 124, 3, 0, []), (100, .aload_n 0, 1, 0, []), (101, .aload_n 0, 1, 0, []), (102, .getfield 10, 3, 0, []), (105, .iload_n 1, 1, 0, []), (106, .iload_n 2, 1, 0, []), (107, .iload_n 3, 1, 0, []), (108, .iload 4, 2, 0, []), (110, .iload 5, 2, 0, []), (112, .invokevirtual 156, 3, 0, []), (115, .invokevirtual 118, 3, 0, []), (118, .ireturn, 1, 0, [])]
theorem zd_X11_work : ∀ q ∈ zc_X11_work, decode prog_1_method_6_code q.1 = .ok (q.2.1, q.2.2.1) := by decide +kernel
def zc_X9_addWork : List (Nat × ClassFile.Instr × Nat × Nat × List (Nat × Int × Nat)) := [(0, .aload_n 0, 1, 0, []), (1, .getfield 71, 3, 0, []), (4, .istore 6, 2, 0, []), (6, .iload 6, 2, 0, []), (8, .bipush 10, 2, 0, []), (10, .if_icmp .lt 5, 3, 0, []), (13, .iconst (-1), 1, 0, []), (14, .ireturn, 1, 0, []), (15, .aload_n 0, 1, 0, []), (16, .getfield 18, 3, 0, []), (19, .iload 6, 2, 0, []), (21, .iload_n 1, 1, 0, []), (22, .iastore, 1, 0, []), (23, .aload_n 0, 1, 0, []), (24, .getfield 21, 3, 0, []), (27, .iload 6, 2, 0, []), (29, .iload_n 2, 1, 0, []), (30, .iastore, 1, 0, []), (31, .aload_n 0, 1, 0, []), (32, .getfield 24, 3, 0, []), (35, .iload 6, 2, 0, []), (37, .iload_n 3, 1, 0, []), (38, .iastore, 1, 0, []), (39, .aload_n 0, 1, 0, []), (40, .getfield 27, 3, 0, []), (43, .iload 6, 2, 0, []), (45, .iload 4, 2, 0, []), (47, .iastore, 1, 0, []), (48, .aload_n 0, 1, 0, []), (49, .getfield 30, 3, 0, []), (52, .iload 6, 2, 0, []), (54, .iload 5, 2, 0, []), (56, .iastore, 1, 0, []), (57, .aload_n 0, 1, 0, []), (58, .getfield 58, 3, 0, []), (61, .getfield 91, 3, 0, []), (64, .iload 6, 2, 0, []), (66, .iconst 0, 1, 0, []), (67, .iastore, 1, 0, []), (68, .aload_n 0, 1, 0, []), (69, .dup, 1, 0, []), (70, .getfield 71, 3, 0, []), (73, .iconst 1, 1, 0, []), (74, .iadd, 1, 0, []), (75, .putfield 71, 3, 0, []), (78, .iload 6, 2, 0, []), (80, .ireturn, 1, 0, [])]
theorem zd_X9_addWork : ∀ q ∈ zc_X9_addWork, decode prog_11_method_8_code q.1 = .ok (q.2.1, q.2.2.1) := by decide +kernel
def zc_X11_at : List (Nat × ClassFile.Instr × Nat × Nat × List (Nat × Int × Nat)) := [(0, .aload_n 0, 1, 0, []), (1, .getfield 10, 3, 0, []), (4, .iload_n 1, 1, 0, []), (5, .invokevirtual 150, 3, 0, []), (8, .ifCond .ne 5, 3, 0, []), (11, .iconst (-1), 1, 0, []), (12, .ireturn, 1, 0, []), (13, .iload_n 2, 1, 0, []), (14, .tableswitch 101 0 5 #[38, 48, 58, 68, 78, 88], 38, 0, []), (52, .aload_n 0, 1, 0, []), (53, .getfield 10, 3, 0, []), (56, .getfield 160, 3, 0, []), (59, .iload_n 1, 1, 0, []), (60, .iaload, 1, 0, []), (61, .ireturn, 1, 0, []), (62, .aload_n 0, 1, 0, []), (63, .getfield 10, 3, 0, []), (66, .getfield 163, 3, 0, []), (69, .iload_n 1, 1, 0, []), (70, .iaload, 1, 0, []), (71, .ireturn, 1, 0, []), (72, .aload_n 0, 1, 0, []), (73, .getfield 10, 3, 0, []), (76, .getfield 166, 3, 0, []), (79, .iload_n 1, 1, 0, []), (80, .iaload, 1, 0, []), (81, .ireturn, 1, 0, []), (82, .aload_n 0, 1, 0, []), (83, .getfield 10, 3, 0, []), (86, .getfield 169, 3, 0, []), (89, .iload_n 1, 1, 0, []), (90, .iaload, 1, 0, []), (91, .ireturn, 1, 0, []), (92, .aload_n 0, 1, 0, []), (93, .getfield 10, 3, 0, []), (96, .getfield 172, 3, 0, []), (99, .iload_n 1, 1, 0, []), (100, .iaload, 1, 0, []), (101, .ireturn, 1, 0, []), (102, .aload_n 0, 1, 0, []), (103, .getfield 10, 3, 0, []), (106, .getfield 135, 3, 0, []), (109, .getfield 175, 3, 0, []), (112, .iload_n 1, 1, 0, []), (113, .iaload, 1, 0, []), (114, .ireturn, 1, 0, []), (115, .iconst (-1), 1, 0, []), (116, .ireturn, 1, 0, [])]
theorem zd_X11_at : ∀ q ∈ zc_X11_at, decode prog_1_method_7_code q.1 = .ok (q.2.1, q.2.2.1) := by decide +kernel
def zc_X11_terms : List (Nat × ClassFile.Instr × Nat × Nat × List (Nat × Int × Nat)) := [(0, .iload_n 1, 1, 0, []), (1, .ifCond .ne 39, 3, 0, []), (4, .iload_n 2, 1, 0, []), (5, .iconst 0, 1, 0, []), (6, .sipush 999, 3, 0, []), (9, .invokestatic 107, 3, 0, []), (12, .ifCond .eq 28, 3, 0, []), (15, .aload_n 0, 1, 0, []), (16, .getfield 10, 3, 0, []), (19, .getfield 135, 3, 0, []), (22, .getfield 178, 3, 0, []), (25, .istore_n 3, 1, 0, []), (26, .aload_n 0, 1, 0, []), (27, .getfield 10, 3, 0, []), (30, .getfield 135, 3, 0, []), (33, .iload_n 2, 1, 0, []), (34, .putfield 178, 3, 0, []), (37, .goto 77, 3, 0, []), (40, .iload_n 1, 1, 0, []), (41, .iconst 1, 1, 0, []), (42, .if_icmp .ne 32, 3, 0, []), (45, .iload_n 2, 1, 0, []), (46, .iconst 1, 1, 0, []), (47, .bipush 9, 2, 0, []), (49, .invokestatic 107, 3, 0, []), (52, .ifCond .eq 22, 3, 0, []), (55, .aload_n 0, 1, 0, []), (56, .getfield 10, 3, 0, []), (59, .getfield 180, 3, 0, []), (62, .istore_n 3, 1, 0, []), (63, .aload_n 0, 1, 0, []), (64, .getfield 10, 3, 0, []), (67, .iload_n 2, 1, 0, []), (68, .putfield 180, 3, 0, []), (71, .goto 43, 3, 0, []), (74, .iload_n 1, 1, 0, []), (75, .iconst 2, 1, 0, []), (76, .if_icmp .ne 32, 3, 0, []), (79, .iload_n 2, 1, 0, []), (80, .iconst 0, 1, 0, []), (81, .bipush 9, 2, 0, []), (83, .invokestatic 107, 3, 0, []), (86, .ifCond .eq 22, 3, 0, []), (89, .aload_n 0, 1, 0, []), (90, .getfield 10, 3, 0, []), (93, .getfield 183, 3, 0, []), (96, .istore_n 3, 1, 0, []), (97, .aload_n 0, 1, 0, []), (98, .getfield 10, 3, 0, []), (101, .iload_n 2, 1, 0, []), (102, .putfield 183, 3, 0, []), (105, .goto 9, 3, 0, []), (108, .aload_n 0, 1, 0, []), (109, .iconst (-1), 1, 0, []), (110, .invokevirtual 111, 3, 0, []), (113, .ireturn, 1, 0, []), (114, .aload_n 0, 1, 0, []), (115, .getfield 23, 3, 0, []), (118, .invokevirtual 124, 3, 0, []), (121, .aload_n 0, 1, 0, []), (122, .iload_n 3, 1, 0, []), (123, .invokevirtual 118, 3, 0, []), (126, .ireturn, 1, 0, [])]
theorem zd_X11_terms : ∀ q ∈ zc_X11_terms, decode prog_1_method_8_code q.1 = .ok (q.2.1, q.2.2.1) := by decide +kernel
def zc_X11_feed : List (Nat × ClassFile.Instr × Nat × Nat × List (Nat × Int × Nat)) := [(0, .aload_n 0, 1, 0, []), (1, .getfield 67, 3, 0, []), (4, .bipush 20, 2, 0, []), (6, .invokevirtual 186, 3, 0, []), (9, .ifCond .ne 5, 3, 0, []), (12, .iconst (-1), 1, 0, []), (13, .ireturn, 1, 0, []), (14, .aload_n 0, 1, 0, []), (15, .getfield 67, 3, 0, []), (18, .iload_n 1, 1, 0, []), (19, .invokevirtual 189, 3, 0, []), (22, .aload_n 0, 1, 0, []), (23, .getfield 67, 3, 0, []), (26, .iload_n 2, 1, 0, []), (27, .invokevirtual 189, 3, 0, []), (30, .aload_n 0, 1, 0, []), (31, .getfield 67, 3, 0, []), (34, .iload_n 3, 1, 0, []), (35, .invokevirtual 189, 3, 0, []), (38, .aload_n 0, 1, 0, []), (39, .getfield 67, 3, 0, []), (42, .iload 4, 2, 0, []), (44, .invokevirtual 189, 3, 0, []), (47, .aload_n 0, 1, 0, []), (48, .getfield 67, 3, 0, []), (51, .iload 5, 2, 0, []), (53, .invokevirtual 189, 3, 0, []), (56, .aload_n 0, 1, 0, []), (57, .getfield 67, 3, 0, []), (60, .getfield 193, 3, 0, []), (63, .ireturn, 1, 0, [])]
theorem zd_X11_feed : ∀ q ∈ zc_X11_feed, decode prog_1_method_9_code q.1 = .ok (q.2.1, q.2.2.1) := by decide +kernel
def zc_X7_hasRoomFor : List (Nat × ClassFile.Instr × Nat × Nat × List (Nat × Int × Nat)) := [(0, .aload_n 0, 1, 0, []), (1, .getfield 15, 3, 0, []), (4, .sipush 400, 3, 0, []), (7, .iload_n 1, 1, 0, []), (8, .isub, 1, 0, []), (9, .if_icmp .gt 7, 3, 0, []), (12, .iconst 1, 1, 0, []), (13, .goto 4, 3, 0, []), (16, .iconst 0, 1, 0, []), (17, .ireturn, 1, 0, [])]
theorem zd_X7_hasRoomFor : ∀ q ∈ zc_X7_hasRoomFor, decode prog_9_method_2_code q.1 = .ok (q.2.1, q.2.2.1) := by decide +kernel
def zc_X7_addNumber : List (Nat × ClassFile.Instr × Nat × Nat × List (Nat × Int × Nat)) := [(0, .bipush 24, 2, 0, []), (2, .istore_n 2, 1, 0, []), (3, .iload_n 2, 1, 0, []), (4, .ifCond .lt 52, 3, 0, []), (7, .aload_n 0, 1, 0, []), (8, .getfield 15, 3, 0, []), (11, .ifCond .lt 39, 3, 0, []), (14, .aload_n 0, 1, 0, []), (15, .getfield 15, 3, 0, []), (18, .sipush 400, 3, 0, []), (21, .if_icmp .ge 29, 3, 0, []), (24, .aload_n 0, 1, 0, []), (25, .getfield 11, 3, 0, []), (28, .aload_n 0, 1, 0, []), (29, .getfield 15, 3, 0, []), (32, .iload_n 1, 1, 0, []), (33, .iload_n 2, 1, 0, []), (34, .iushr, 1, 0, []), (35, .sipush 255, 3, 0, []), (38, .iand, 1, 0, []), (39, .iastore, 1, 0, []), (40, .aload_n 0, 1, 0, []), (41, .dup, 1, 0, []), (42, .getfield 15, 3, 0, []), (45, .iconst 1, 1, 0, []), (46, .iadd, 1, 0, []), (47, .putfield 15, 3, 0, []), (50, .iinc 2 (-8), 3, 0, []), (53, .goto (-50), 3, 0, []), (56, .return_, 1, 0, [])]
theorem zd_X7_addNumber : ∀ q ∈ zc_X7_addNumber, decode prog_9_method_3_code q.1 = .ok (q.2.1, q.2.2.1) := by decide +kernel
def zc_X11_end : List (Nat × ClassFile.Instr × Nat × Nat × List (Nat × Int × Nat)) := [(0, .iload_n 1, 1, 0, []), (1, .ifCond .lt 14, 3, 0, []), (4, .iload_n 1, 1, 0, []), (5, .aload_n 0, 1, 0, []), (6, .getfield 67, 3, 0, []), (9, .getfield 193, 3, 0, []), (12, .if_icmp .le 5, 3, 0, []), (15, .iconst (-1), 1, 0, []), (16, .ireturn, 1, 0, []), (17, .aload_n 0, 1, 0, []), (18, .getfield 67, 3, 0, []), (21, .iload_n 1, 1, 0, []), (22, .putfield 193, 3, 0, []), (25, .iload_n 1, 1, 0, []), (26, .ireturn, 1, 0, [])]
theorem zd_X11_end : ∀ q ∈ zc_X11_end, decode prog_1_method_10_code q.1 = .ok (q.2.1, q.2.2.1) := by decide +kernel
def zc_X11_row : List (Nat × ClassFile.Instr × Nat × Nat × List (Nat × Int × Nat)) := [(0, .aload_n 0, 1, 0, []), (1, .getfield 67, 3, 0, []), (4, .getfield 193, 3, 0, []), (7, .ifCond .ne 10, 3, 0, []), (10, .aload_n 0, 1, 0, []), (11, .bipush (-6), 2, 0, []), (13, .invokevirtual 111, 3, 0, []), (16, .ireturn, 1, 0, []), (17, .iconst 0, 1, 0, []), (18, .istore_n 1, 1, 0, []), (19, .aload_n 0, 1, 0, []), (20, .iconst 0, 1, 0, []), (21, .putfield 196, 3, 0, []), (24, .iconst 0, 1, 0, []), (25, .istore_n 2, 1, 0, []), (26, .iload_n 2, 1, 0, []), (27, .aload_n 0, 1, 0, []), (28, .getfield 67, 3, 0, []), (31, .getfield 193, 3, 0, []), (34, .if_icmp .ge 33, 3, 0, []), (37, .aload_n 0, 1, 0, []), (38, .iload_n 2, 1, 0, []), (39, .invokevirtual 199, 3, 0, []), (42, .ifCond .eq 9, 3, 0, []), (45, .iinc 1 1, 3, 0, []), (48, .goto 13, 3, 0, []), (51, .aload_n 0, 1, 0, []), (52, .dup, 1, 0, []), (53, .getfield 196, 3, 0, []), (56, .iconst 1, 1, 0, []), (57, .iadd, 1, 0, []), (58, .putfield 196, 3, 0, []), (61, .iinc 2 4, 3, 0, []), (64, .goto (-38), 3, 0, []), (67, .aload_n 0, 1, 0, []), (68, .getfield 67, 3, 0, []), (71, .iconst 0, 1, 0, []), (72, .putfield 193, 3, 0, []), (75, .aload_n 0, 1, 0, []), (76, .getfield 23, 3, 0, []), (79, .invokevirtual 124, 3, 0, []), (82, .aload_n 0, 1, 0, []), (83, .iload_n 1, 1, 0, []), (84, .invokevirtual 118, 3, 0, []), (87, .ireturn, 1, 0, [])]
theorem zd_X11_row : ∀ q ∈ zc_X11_row, decode prog_1_method_11_code q.1 = .ok (q.2.1, q.2.2.1) := by decide +kernel
def zc_X11_addWorkOfRow : List (Nat × ClassFile.Instr × Nat × Nat × List (Nat × Int × Nat)) := [(0, .aload_n 0, 1, 0, []), (1, .getfield 67, 3, 0, []), (4, .iload_n 1, 1, 0, []), (5, .invokevirtual 202, 3, 0, []), (8, .istore_n 2, 1, 0, []), (9, .aload_n 0, 1, 0, []), (10, .getfield 67, 3, 0, []), (13, .iload_n 1, 1, 0, []), (14, .iconst 1, 1, 0, []), (15, .iadd, 1, 0, []), (16, .invokevirtual 202, 3, 0, []), (19, .istore_n 3, 1, 0, []), (20, .aload_n 0, 1, 0, []), (21, .getfield 67, 3, 0, []), (24, .iload_n 1, 1, 0, []), (25, .iconst 2, 1, 0, []), (26, .iadd, 1, 0, []), (27, .invokevirtual 202, 3, 0, []), (30, .istore 4, 2, 0, []), (32, .aload_n 0, 1, 0, []), (33, .getfield 67, 3, 0, []), (36, .iload_n 1, 1, 0, []), (37, .iconst 3, 1, 0, []), (38, .iadd, 1, 0, []), (39, .invokevirtual 202, 3, 0, []), (42, .istore 5, 2, 0, []), (44, .aload_n 0, 1, 0, []), (45, .getfield 10, 3, 0, []), (48, .iload_n 2, 1, 0, []), (49, .invokevirtual 131, 3, 0, []), (52, .ifCond .eq 42, 3, 0, []), (55, .iload_n 3, 1, 0, []), (56, .iconst 1, 1, 0, []), (57, .if_icmp .lt 37, 3, 0, []), (60, .iload 4, 2, 0, []), (62, .iconst 0, 1, 0, []), (63, .bipush 23, 2, 0, []), (65, .invokestatic 107, 3, 0, []), (68, .ifCond .eq 26, 3, 0, []), (71, .iload 5, 2, 0, []), (73, .iconst 1, 1, 0, []), (74, .bipush 99, 2, 0, []), (76, .invokestatic 107, 3, 0, []), (79, .ifCond .eq 15, 3, 0, []), (82, .aload_n 0, 1, 0, []), (83, .getfield 10, 3, 0, []), (86, .getfield 153, 3, 0, []), (89, .bipush 10, 2, 0, []), (91, .if_icmp .lt 5, 3, 0, []), (94, .iconst 0, 1, 0, []), (95, .ireturn, 1, 0, []), (96, .aload_n 0, 1, 0, []), (97, .getfield 10, 3, 0, []), (100, .iload_n 2, 1, 0, []), (101, .iload_n 3, 1, 0, []), (102, .iload 4, 2, 0, []), (104, .iload 5, 2, 0, []), (106, .iconst (-1), 1, 0, []), (107, .invokevirtual 156, 3, 0, []), (110, .pop, 1, 0, []), (111, .iconst 1, 1, 0, []), (112, .ireturn, 1, 0, [])]
theorem zd_X11_addWorkOfRow : ∀ q ∈ zc_X11_addWorkOfRow, decode prog_1_method_12_code q.1 = .ok (q.2.1, q.2.2.1) := by decide +kernel
def zc_X7_byteAt : List (Nat × ClassFile.Instr × Nat × Nat × List (Nat × Int × Nat)) := [(0, .iload_n 1, 1, 0, []), (1, .ifCond .lt 27, 3, 0, []), (4, .iload_n 1, 1, 0, []), (5, .aload_n 0, 1, 0, []), (6, .getfield 15, 3, 0, []), (9, .if_icmp .ge 19, 3, 0, []), (12, .iload_n 1, 1, 0, []), (13, .sipush 400, 3, 0, []), (16, .if_icmp .ge 12, 3, 0, []), (19, .aload_n 0, 1, 0, []), (20, .getfield 11, 3, 0, []), (23, .iload_n 1, 1, 0, []), (24, .iaload, 1, 0, []), (25, .goto 4, 3, 0, []), (28, .iconst (-1), 1, 0, []), (29, .ireturn, 1, 0, [])]
theorem zd_X7_byteAt : ∀ q ∈ zc_X7_byteAt, decode prog_9_method_4_code q.1 = .ok (q.2.1, q.2.2.1) := by decide +kernel
def zc_X11_dust : List (Nat × ClassFile.Instr × Nat × Nat × List (Nat × Int × Nat)) := [(0, .aload_n 0, 1, 0, []), (1, .getfield 196, 3, 0, []), (4, .ireturn, 1, 0, [])]
theorem zd_X11_dust : ∀ q ∈ zc_X11_dust, decode prog_1_method_13_code q.1 = .ok (q.2.1, q.2.2.1) := by decide +kernel
def zc_X11_law : List (Nat × ClassFile.Instr × Nat × Nat × List (Nat × Int × Nat)) := [(0, .aload_n 0, 1, 0, []), (1, .getfield 10, 3, 0, []), (4, .getfield 205, 3, 0, []), (7, .bipush 6, 2, 0, []), (9, .if_icmp .lt 18, 3, 0, []), (12, .aload_n 0, 1, 0, []), (13, .getfield 67, 3, 0, []), (16, .iconst 0, 1, 0, []), (17, .putfield 193, 3, 0, []), (20, .aload_n 0, 1, 0, []), (21, .bipush (-5), 2, 0, []), (23, .invokevirtual 111, 3, 0, []), (26, .ireturn, 1, 0, []), (27, .aload_n 0, 1, 0, []), (28, .getfield 76, 3, 0, []), (31, .iconst 0, 1, 0, []), (32, .invokevirtual 208, 3, 0, []), (35, .istore_n 1, 1, 0, []), (36, .aload_n 0, 1, 0, []), (37, .getfield 67, 3, 0, []), (40, .iconst 0, 1, 0, []), (41, .putfield 193, 3, 0, []), (44, .iload_n 1, 1, 0, []), (45, .ifCond .ne 10, 3, 0, []), (48, .aload_n 0, 1, 0, []), (49, .bipush (-6), 2, 0, []), (51, .invokevirtual 111, 3, 0, []), (54, .ireturn, 1, 0, []), (55, .aload_n 0, 1, 0, []), (56, .getfield 10, 3, 0, []), (59, .getfield 212, 3, 0, []), (62, .aload_n 0, 1, 0, []), (63, .getfield 10, 3, 0, []), (66, .getfield 205, 3, 0, []), (69, .aload_n 0, 1, 0, []), (70, .getfield 76, 3, 0, []), (73, .getfield 216, 3, 0, []), (76, .invokevirtual 220, 3, 0, []), (79, .aastore, 1, 0, []), (80, .aload_n 0, 1, 0, []), (81, .getfield 10, 3, 0, []), (84, .dup, 1, 0, []), (85, .getfield 205, 3, 0, []), (88, .iconst 1, 1, 0, []), (89, .iadd, 1, 0, []), (90, .putfield 205, 3, 0, []), (93, .aload_n 0, 1, 0, []), (94, .aload_n 0, 1, 0, []), (95, .getfield 10, 3, 0, []), (98, .getfield 205, 3, 0, []), (101, .iconst 1, 1, 0, []), (102, .isub, 1, 0, []), (103, .invokevirtual 118, 3, 0, []), (106, .ireturn, 1, 0, [])]
theorem zd_X11_law : ∀ q ∈ zc_X11_law, decode prog_1_method_14_code q.1 = .ok (q.2.1, q.2.2.1) := by decide +kernel
def zc_X5_read : List (Nat × ClassFile.Instr × Nat × Nat × List (Nat × Int × Nat)) := [(0, .aload_n 0, 1, 0, []), (1, .iload_n 1, 1, 0, []), (2, .putfield 28, 3, 0, []), (5, .aload_n 0, 1, 0, []), (6, .iconst 0, 1, 0, []), (7, .putfield 32, 3, 0, []), (10, .aload_n 0, 1, 0, []), (11, .getfield 16, 3, 0, []), (14, .invokevirtual 35, 3, 0, []), (17, .aload_n 0, 1, 0, []), (18, .getfield 24, 3, 0, []), (21, .invokevirtual 38, 3, 0, []), (24, .aload_n 0, 1, 0, []), (25, .iconst (-1), 1, 0, []), (26, .putfield 20, 3, 0, []), (29, .iconst 0, 1, 0, []), (30, .istore_n 2, 1, 0, []), (31, .iload_n 2, 1, 0, []), (32, .bipush 12, 2, 0, []), (34, .if_icmp .ge 77, 3, 0, []), (37, .iload_n 1, 1, 0, []), (38, .ifCond .eq 10, 3, 0, []), (41, .aload_n 0, 1, 0, []), (42, .invokevirtual 43, 3, 0, []), (45, .goto 7, 3, 0, []), (48, .aload_n 0, 1, 0, []), (49, .invokevirtual 47, 3, 0, []), (52, .istore_n 3, 1, 0, []), (53, .iload_n 3, 1, 0, []), (54, .ifCond .eq 15, 3, 0, []), (57, .aload_n 0, 1, 0, []), (58, .getfield 24, 3, 0, []), (61, .getfield 50, 3, 0, []), (64, .ifCond .ne 5, 3, 0, []), (67, .iconst 1, 1, 0, []), (68, .ireturn, 1, 0, []), (69, .iload_n 3, 1, 0, []), (70, .ifCond .eq 15, 3, 0, []), (73, .aload_n 0, 1, 0, []), (74, .getfield 24, 3, 0, []), (77, .bipush 59, 2, 0, []), (79, .invokevirtual 53, 3, 0, []), (82, .ifCond .ne 16, 3, 0, []), (85, .aload_n 0, 1, 0, []), (86, .aload_n 0, 1, 0, []), (87, .getfield 24, 3, 0, []), (90, .getfield 57, 3, 0, []), (93, .putfield 20, 3, 0, []), (96, .iconst 0, 1, 0, []), (97, .ireturn, 1, 0, []), (98, .aload_n 0, 1, 0, []), (99, .getfield 24, 3, 0, []), (102, .invokevirtual 60, 3, 0, []), (105, .iinc 2 1, 3, 0, []), (108, .goto (-77), 3, 0, []), (111, .aload_n 0, 1, 0, []), (112, .aload_n 0, 1, 0, []), (113, .getfield 24, 3, 0, []), (116, .getfield 57, 3, 0, []), (119, .putfield 20, 3, 0, []), (122, .iconst 0, 1, 0, []), (123, .ireturn, 1, 0, [])]
theorem zd_X5_read : ∀ q ∈ zc_X5_read, decode prog_7_method_2_code q.1 = .ok (q.2.1, q.2.2.1) := by decide +kernel
def zc_X8_clear : List (Nat × ClassFile.Instr × Nat × Nat × List (Nat × Int × Nat)) := [(0, .aload_n 0, 1, 0, []), (1, .iconst 0, 1, 0, []), (2, .putfield 41, 3, 0, []), (5, .aload_n 0, 1, 0, []), (6, .iconst 0, 1, 0, []), (7, .putfield 45, 3, 0, []), (10, .return_, 1, 0, [])]
theorem zd_X8_clear : ∀ q ∈ zc_X8_clear, decode prog_10_method_3_code q.1 = .ok (q.2.1, q.2.2.1) := by decide +kernel
def zc_X7_rewind : List (Nat × ClassFile.Instr × Nat × Nat × List (Nat × Int × Nat)) := [(0, .aload_n 0, 1, 0, []), (1, .iconst 0, 1, 0, []), (2, .putfield 19, 3, 0, []), (5, .aload_n 0, 1, 0, []), (6, .invokevirtual 22, 3, 0, []), (9, .return_, 1, 0, [])]
theorem zd_X7_rewind : ∀ q ∈ zc_X7_rewind, decode prog_9_method_5_code q.1 = .ok (q.2.1, q.2.2.1) := by decide +kernel
def zc_X7_next : List (Nat × ClassFile.Instr × Nat × Nat × List (Nat × Int × Nat)) := [(0, .aload_n 0, 1, 0, []), (1, .getfield 19, 3, 0, []), (4, .aload_n 0, 1, 0, []), (5, .getfield 15, 3, 0, []), (8, .if_icmp .ge 29, 3, 0, []), (11, .aload_n 0, 1, 0, []), (12, .aload_n 0, 1, 0, []), (13, .getfield 19, 3, 0, []), (16, .invokevirtual 25, 3, 0, []), (19, .bipush 32, 2, 0, []), (21, .if_icmp .ne 16, 3, 0, []), (24, .aload_n 0, 1, 0, []), (25, .dup, 1, 0, []), (26, .getfield 19, 3, 0, []), (29, .iconst 1, 1, 0, []), (30, .iadd, 1, 0, []), (31, .putfield 19, 3, 0, []), (34, .goto (-34), 3, 0, []), (37, .aload_n 0, 1, 0, []), (38, .aload_n 0, 1, 0, []), (39, .getfield 19, 3, 0, []), (42, .putfield 29, 3, 0, []), (45, .aload_n 0, 1, 0, []), (46, .iconst (-1), 1, 0, []), (47, .putfield 32, 3, 0, []), (50, .aload_n 0, 1, 0, []), (51, .getfield 29, 3, 0, []), (54, .aload_n 0, 1, 0, []), (55, .getfield 15, 3, 0, []), (58, .if_icmp .lt 9, 3, 0, []), (61, .aload_n 0, 1, 0, []), (62, .iconst 0, 1, 0, []), (63, .putfield 35, 3, 0, []), (66, .return_, 1, 0, []), (67, .aload_n 0, 1, 0, []), (68, .aload_n 0, 1, 0, []), (69, .aload_n 0, 1, 0, []), (70, .getfield 29, 3, 0, []), (73, .invokevirtual 25, 3, 0, []), (76, .invokestatic 38, 3, 0, []), (79, .putfield 35, 3, 0, []), (82, .aload_n 0, 1, 0, []), (83, .getfield 35, 3, 0, []), (86, .iconst 3, 1, 0, []), (87, .if_icmp .ne 15, 3, 0, []), (90, .aload_n 0, 1, 0, []), (91, .aload_n 0, 1, 0, []), (92, .aload_n 0, 1, 0, []), (93, .getfield 29, 3, 0, []), (96, .invokevirtual 25, 3, 0, []), (99, .putfield 32, 3, 0, []), (102, .aload_n 0, 1, 0, []), (103, .dup, 1, 0, []), (104, .getfield 19, 3, 0, []), (107, .iconst 1, 1, 0, []), (108, .iadd, 1, 0, []), (109, .putfield 19, 3, 0, []), (112, .aload_n 0, 1, 0, []), (113, .getfield 35, 3, 0, []), (116, .iconst 3, 1, 0, []), (117, .if_icmp .eq 45, 3, 0, []), (120, .aload_n 0, 1, 0, []), (121, .getfield 19, 3, 0, []), (124, .aload_n 0, 1, 0, []), (125, .getfield 15, 3, 0, []), (128, .if_icmp .ge 34, 3, 0, []), (131, .aload_n 0, 1, 0, []), (132, .aload_n 0, 1, 0, []), (133, .getfield 19, 3, 0, []), (136, .invokevirtual 25, 3, 0, []), (139, .invokestatic 38, 3, 0, []), (142, .aload_n 0, 1, 0, []), (143, .getfield 35, 3, 0, []), (146, .if_icmp .ne 16, 3, 0, []), (149, .aload_n 0, 1, 0, []), (150, .dup, 1, 0, []), (151, .getfield 19, 3, 0, []), (154, .iconst 1, 1, 0, []), (155, .iadd, 1, 0, []), (156, .putfield 19, 3, 0, []), (159, .goto (-47), 3, 0, []), (162, .return_, 1, 0, [])]
theorem zd_X7_next : ∀ q ∈ zc_X7_next, decode prog_9_method_6_code q.1 = .ok (q.2.1, q.2.2.1) := by decide +kernel
def zc_X7_kindOf : List (Nat × ClassFile.Instr × Nat × Nat × List (Nat × Int × Nat)) := [(0, .iload_n 0, 1, 0, []), (1, .bipush 97, 2, 0, []), (3, .if_icmp .lt 11, 3, 0, []), (6, .iload_n 0, 1, 0, []), (7, .bipush 122, 2, 0, []), (9, .if_icmp .gt 5, 3, 0, []), (12, .iconst 1, 1, 0, []), (13, .ireturn, 1, 0, []), (14, .iload_n 0, 1, 0, []), (15, .bipush 48, 2, 0, []), (17, .if_icmp .lt 13, 3, 0, []), (20, .iload_n 0, 1, 0, []), (21, .bipush 57, 2, 0, []), (23, .if_icmp .gt 7, 3, 0, []), (26, .iconst 2, 1, 0, []), (27, .goto 4, 3, 0, []), (30, .iconst 3, 1, 0, []), (31, .ireturn, 1, 0, [])]
theorem zd_X7_kindOf : ∀ q ∈ zc_X7_kindOf, decode prog_9_method_7_code q.1 = .ok (q.2.1, q.2.2.1) := by decide +kernel
def zc_X5_orderClause : List (Nat × ClassFile.Instr × Nat × Nat × List (Nat × Int × Nat)) := [(0, .aload_n 0, 1, 0, []), (1, .getfield 24, 3, 0, []), (4, .ldc 86, 2, 0, []), (6, .invokevirtual 65, 3, 0, []), (9, .istore_n 1, 1, 0, []), (10, .iload_n 1, 1, 0, []), (11, .iconst (-1), 1, 0, []), (12, .if_icmp .eq 14, 3, 0, []), (15, .aload_n 0, 1, 0, []), (16, .getfield 16, 3, 0, []), (19, .iload_n 1, 1, 0, []), (20, .invokevirtual 69, 3, 0, []), (23, .ifCond .ne 5, 3, 0, []), (26, .iconst 0, 1, 0, []), (27, .ireturn, 1, 0, []), (28, .aload_n 0, 1, 0, []), (29, .getfield 24, 3, 0, []), (32, .invokevirtual 60, 3, 0, []), (35, .iload_n 1, 1, 0, []), (36, .iconst 2, 1, 0, []), (37, .if_icmp .eq 19, 3, 0, []), (40, .aload_n 0, 1, 0, []), (41, .aload_n 0, 1, 0, []), (42, .getfield 16, 3, 0, []), (45, .getfield 75, 3, 0, []), (48, .invokevirtual 79, 3, 0, []), (51, .ifCond .ne 5, 3, 0, []), (54, .iconst 0, 1, 0, []), (55, .ireturn, 1, 0, []), (56, .iload_n 1, 1, 0, []), (57, .iconst 1, 1, 0, []), (58, .if_icmp .ne 40, 3, 0, []), (61, .aload_n 0, 1, 0, []), (62, .getfield 24, 3, 0, []), (65, .ldc 88, 2, 0, []), (67, .invokevirtual 90, 3, 0, []), (70, .ifCond .ne 5, 3, 0, []), (73, .iconst 0, 1, 0, []), (74, .ireturn, 1, 0, []), (75, .aload_n 0, 1, 0, []), (76, .getfield 24, 3, 0, []), (79, .invokevirtual 60, 3, 0, []), (82, .aload_n 0, 1, 0, []), (83, .aload_n 0, 1, 0, []), (84, .getfield 16, 3, 0, []), (87, .getfield 94, 3, 0, []), (90, .invokevirtual 79, 3, 0, []), (93, .ifCond .ne 5, 3, 0, []), (96, .iconst 0, 1, 0, []), (97, .ireturn, 1, 0, []), (98, .aload_n 0, 1, 0, []), (99, .invokevirtual 97, 3, 0, []), (102, .ifCond .eq 14, 3, 0, []), (105, .aload_n 0, 1, 0, []), (106, .invokevirtual 83, 3, 0, []), (109, .ifCond .eq 7, 3, 0, []), (112, .iconst 1, 1, 0, []), (113, .goto 4, 3, 0, []), (116, .iconst 0, 1, 0, []), (117, .ireturn, 1, 0, [])]
theorem zd_X5_orderClause : ∀ q ∈ zc_X5_orderClause, decode prog_7_method_4_code q.1 = .ok (q.2.1, q.2.2.1) := by decide +kernel
def zc_X7_wordIn : List (Nat × ClassFile.Instr × Nat × Nat × List (Nat × Int × Nat)) := [(0, .aload_n 0, 1, 0, []), (1, .getfield 35, 3, 0, []), (4, .iconst 1, 1, 0, []), (5, .if_icmp .eq 5, 3, 0, []), (8, .iconst (-1), 1, 0, []), (9, .ireturn, 1, 0, []), (10, .iconst 0, 1, 0, []), (11, .istore_n 2, 1, 0, []), (12, .iconst 0, 1, 0, []), (13, .istore_n 3, 1, 0, []), (14, .iconst 0, 1, 0, []), (15, .istore 4, 2, 0, []), (17, .iload 4, 2, 0, []), (19, .aload_n 1, 1, 0, []), (20, .invokevirtual 45, 3, 0, []), (23, .if_icmp .gt 89, 3, 0, []), (26, .iload 4, 2, 0, []), (28, .aload_n 1, 1, 0, []), (29, .invokevirtual 45, 3, 0, []), (32, .if_icmp .ge 12, 3, 0, []), (35, .aload_n 1, 1, 0, []), (36, .iload 4, 2, 0, []), (38, .invokevirtual 50, 3, 0, []), (41, .goto 5, 3, 0, []), (44, .bipush 32, 2, 0, []), (46, .istore 5, 2, 0, []), (48, .iload 5, 2, 0, []), (50, .bipush 32, 2, 0, []), (52, .if_icmp .eq 34, 3, 0, []), (55, .iload_n 3, 1, 0, []), (56, .iconst (-1), 1, 0, []), (57, .if_icmp .eq 24, 3, 0, []), (60, .aload_n 0, 1, 0, []), (61, .aload_n 0, 1, 0, []), (62, .getfield 29, 3, 0, []), (65, .iload_n 3, 1, 0, []), (66, .iadd, 1, 0, []), (67, .invokevirtual 25, 3, 0, []), (70, .iload 5, 2, 0, []), (72, .if_icmp .ne 9, 3, 0, []), (75, .iload_n 3, 1, 0, []), (76, .iconst 1, 1, 0, []), (77, .iadd, 1, 0, []), (78, .goto 4, 3, 0, []), (81, .iconst (-1), 1, 0, []), (82, .istore_n 3, 1, 0, []), (83, .goto 23, 3, 0, []), (86, .iload_n 3, 1, 0, []), (87, .aload_n 0, 1, 0, []), (88, .getfield 19, 3, 0, []), (91, .aload_n 0, 1, 0, []), (92, .getfield 29, 3, 0, []), (95, .isub, 1, 0, []), (96, .if_icmp .ne 5, 3, 0, []), (99, .iload_n 2, 1, 0, []), (100, .ireturn, 1, 0, []), (101, .iinc 2 1, 3, 0, []), (104, .iconst 0, 1, 0, []), (105, .istore_n 3, 1, 0, []), (106, .iinc 4 1, 3, 0, []), (109, .goto (-92), 3, 0, []), (112, .iconst (-1), 1, 0, []), (113, .ireturn, 1, 0, [])]
theorem zd_X7_wordIn : ∀ q ∈ zc_X7_wordIn, decode prog_9_method_10_code q.1 = .ok (q.2.1, q.2.2.1) := by decide +kernel
def zc_J0_length_8abf5 : List (Nat × ClassFile.Instr × Nat × Nat × List (Nat × Int × Nat)) := [(0, .aload_n 0, 1, 0, []), (1, .getfield 9, 3, 0, []), (4, .arraylength, 1, 0, []), (5, .aload_n 0, 1, 0, []), (6, .invokevirtual 335, 3, 0, []), (9, .ishr, 1, 0, []), (10, .ireturn, 1, 0, [])]
theorem zd_J0_length_8abf5 : ∀ q ∈ zc_J0_length_8abf5, decode prog_17_method_54_code q.1 = .ok (q.2.1, q.2.2.1) := by decide +kernel
def zc_J0_coder_7d493 : List (Nat × ClassFile.Instr × Nat × Nat × List (Nat × Int × Nat)) := [(0, .getstatic 38, 3, 0, []), (3, .ifCond .eq 10, 3, 0, []), (6, .aload_n 0, 1, 0, []), (7, .getfield 15, 3, 0, []), (10, .goto 4, 3, 0, []), (13, .iconst 1, 1, 0, []), (14, .ireturn, 1, 0, [])]
theorem zd_J0_coder_7d493 : ∀ q ∈ zc_J0_coder_7d493, decode prog_17_method_152_code q.1 = .ok (q.2.1, q.2.2.1) := by decide +kernel
def zc_J0_charAt_5068e : List (Nat × ClassFile.Instr × Nat × Nat × List (Nat × Int × Nat)) := [(0, .aload_n 0, 1, 0, []), (1, .invokevirtual 492, 3, 0, []), (4, .ifCond .eq 12, 3, 0, []), (7, .aload_n 0, 1, 0, []), (8, .getfield 9, 3, 0, []), (11, .iload_n 1, 1, 0, []), (12, .invokestatic 495, 3, 0, []), (15, .ireturn, 1, 0, []), (16, .aload_n 0, 1, 0, []), (17, .getfield 9, 3, 0, []), (20, .iload_n 1, 1, 0, []), (21, .invokestatic 498, 3, 0, []), (24, .ireturn, 1, 0, [])]
theorem zd_J0_charAt_5068e : ∀ q ∈ zc_J0_charAt_5068e, decode prog_17_method_56_code q.1 = .ok (q.2.1, q.2.2.1) := by decide +kernel
def zc_J0_isLatin1_aae02 : List (Nat × ClassFile.Instr × Nat × Nat × List (Nat × Int × Nat)) := [(0, .getstatic 38, 3, 0, []), (3, .ifCond .eq 14, 3, 0, []), (6, .aload_n 0, 1, 0, []), (7, .getfield 15, 3, 0, []), (10, .ifCond .ne 7, 3, 0, []), (13, .iconst 1, 1, 0, []), (14, .goto 4, 3, 0, []), (17, .iconst 0, 1, 0, []), (18, .ireturn, 1, 0, [])]
theorem zd_J0_isLatin1_aae02 : ∀ q ∈ zc_J0_isLatin1_aae02, decode prog_17_method_154_code q.1 = .ok (q.2.1, q.2.2.1) := by decide +kernel
def zc_J1_charAt_3b067 : List (Nat × ClassFile.Instr × Nat × Nat × List (Nat × Int × Nat)) := [(0, .iload_n 1, 1, 0, []), (1, .aload_n 0, 1, 0, []), (2, .arraylength, 1, 0, []), (3, .invokestatic 9, 3, 0, []), (6, .aload_n 0, 1, 0, []), (7, .iload_n 1, 1, 0, []), (8, .baload, 1, 0, []), (9, .sipush 255, 3, 0, []), (12, .iand, 1, 0, []), (13, .i2c, 1, 0, []), (14, .ireturn, 1, 0, [])]
theorem zd_J1_charAt_3b067 : ∀ q ∈ zc_J1_charAt_3b067, decode prog_18_method_2_code q.1 = .ok (q.2.1, q.2.2.1) := by decide +kernel
def zc_J0_checkIndex_df160 : List (Nat × ClassFile.Instr × Nat × Nat × List (Nat × Int × Nat)) := [(0, .iload_n 0, 1, 0, []), (1, .iload_n 1, 1, 0, []), (2, .getstatic 1053, 3, 0, []), (5, .invokestatic 1059, 3, 0, []), (8, .pop, 1, 0, []), (9, .return_, 1, 0, [])]
theorem zd_J0_checkIndex_df160 : ∀ q ∈ zc_J0_checkIndex_df160, decode prog_17_method_155_code q.1 = .ok (q.2.1, q.2.2.1) := by decide +kernel
def zc_J3_checkIndex_8e157 : List (Nat × ClassFile.Instr × Nat × Nat × List (Nat × Int × Nat)) := [(0, .iload_n 0, 1, 0, []), (1, .ifCond .lt 8, 3, 0, []), (4, .iload_n 0, 1, 0, []), (5, .iload_n 1, 1, 0, []), (6, .if_icmp .lt 10, 3, 0, []), (9, .aload_n 2, 1, 0, []), (10, .iload_n 0, 1, 0, []), (11, .iload_n 1, 1, 0, []), (12, .invokestatic 95, 3, 0, []), (15, .athrow, 1, 0, []), (16, .iload_n 0, 1, 0, []), (17, .ireturn, 1, 0, [])]
theorem zd_J3_checkIndex_8e157 : ∀ q ∈ zc_J3_checkIndex_8e157, decode prog_22_method_11_code q.1 = .ok (q.2.1, q.2.2.1) := by decide +kernel
def zc_J2_charAt_3b067 : List (Nat × ClassFile.Instr × Nat × Nat × List (Nat × Int × Nat)) := [(0, .iload_n 1, 1, 0, []), (1, .aload_n 0, 1, 0, []), (2, .invokestatic 67, 3, 0, []), (5, .aload_n 0, 1, 0, []), (6, .iload_n 1, 1, 0, []), (7, .invokestatic 71, 3, 0, []), (10, .ireturn, 1, 0, [])]
theorem zd_J2_charAt_3b067 : ∀ q ∈ zc_J2_charAt_3b067, decode prog_19_method_83_code q.1 = .ok (q.2.1, q.2.2.1) := by decide +kernel
def zc_J2_checkIndex_2214a : List (Nat × ClassFile.Instr × Nat × Nat × List (Nat × Int × Nat)) := [(0, .iload_n 0, 1, 0, []), (1, .aload_n 1, 1, 0, []), (2, .invokestatic 48, 3, 0, []), (5, .invokestatic 414, 3, 0, []), (8, .return_, 1, 0, [])]
theorem zd_J2_checkIndex_2214a : ∀ q ∈ zc_J2_checkIndex_2214a, decode prog_19_method_91_code q.1 = .ok (q.2.1, q.2.2.1) := by decide +kernel
def zc_J2_length_9d52b : List (Nat × ClassFile.Instr × Nat × Nat × List (Nat × Int × Nat)) := [(0, .aload_n 0, 1, 0, []), (1, .arraylength, 1, 0, []), (2, .iconst 1, 1, 0, []), (3, .ishr, 1, 0, []), (4, .ireturn, 1, 0, [])]
theorem zd_J2_length_9d52b : ∀ q ∈ zc_J2_length_9d52b, decode prog_19_method_6_code q.1 = .ok (q.2.1, q.2.2.1) := by decide +kernel
def zc_J2_getChar_3b067 : List (Nat × ClassFile.Instr × Nat × Nat × List (Nat × Int × Nat)) := [(0, .getstatic 44, 3, 0, []), (3, .ifCond .ne 25, 3, 0, []), (6, .iload_n 1, 1, 0, []), (7, .ifCond .lt 11, 3, 0, []), (10, .iload_n 1, 1, 0, []), (11, .aload_n 0, 1, 0, []), (12, .invokestatic 48, 3, 0, []), (15, .if_icmp .lt 13, 3, 0, []), (18, .new 52, 3, 0, []), (21, .dup, 1, 0, []), (22, .ldc 54, 2, 0, []), (24, .invokespecial 56, 3, 0, []), (27, .athrow, 1, 0, []), (28, .iload_n 1, 1, 0, []), (29, .iconst 1, 1, 0, []), (30, .ishl, 1, 0, []), (31, .istore_n 1, 1, 0, []), (32, .aload_n 0, 1, 0, []), (33, .iload_n 1, 1, 0, []), (34, .iinc 1 1, 3, 0, []), (37, .baload, 1, 0, []), (38, .sipush 255, 3, 0, []), (41, .iand, 1, 0, []), (42, .getstatic 59, 3, 0, []), (45, .ishl, 1, 0, []), (46, .aload_n 0, 1, 0, []), (47, .iload_n 1, 1, 0, []), (48, .baload, 1, 0, []), (49, .sipush 255, 3, 0, []), (52, .iand, 1, 0, []), (53, .getstatic 63, 3, 0, []), (56, .ishl, 1, 0, []), (57, .ior, 1, 0, []), (58, .i2c, 1, 0, []), (59, .ireturn, 1, 0, [])]
theorem zd_J2_getChar_3b067 : ∀ q ∈ zc_J2_getChar_3b067, decode prog_19_method_5_code q.1 = .ok (q.2.1, q.2.2.1) := by decide +kernel
def zc_X8_isOpened : List (Nat × ClassFile.Instr × Nat × Nat × List (Nat × Int × Nat)) := [(0, .aload_n 0, 1, 0, []), (1, .getfield 41, 3, 0, []), (4, .aload_n 0, 1, 0, []), (5, .getfield 22, 3, 0, []), (8, .arraylength, 1, 0, []), (9, .if_icmp .lt 5, 3, 0, []), (12, .iconst 0, 1, 0, []), (13, .ireturn, 1, 0, []), (14, .aload_n 0, 1, 0, []), (15, .getfield 22, 3, 0, []), (18, .aload_n 0, 1, 0, []), (19, .getfield 41, 3, 0, []), (22, .iload_n 1, 1, 0, []), (23, .iastore, 1, 0, []), (24, .aload_n 0, 1, 0, []), (25, .getfield 26, 3, 0, []), (28, .aload_n 0, 1, 0, []), (29, .getfield 41, 3, 0, []), (32, .iconst (-1), 1, 0, []), (33, .iastore, 1, 0, []), (34, .aload_n 0, 1, 0, []), (35, .getfield 29, 3, 0, []), (38, .aload_n 0, 1, 0, []), (39, .getfield 41, 3, 0, []), (42, .iconst (-1), 1, 0, []), (43, .iastore, 1, 0, []), (44, .aload_n 0, 1, 0, []), (45, .getfield 32, 3, 0, []), (48, .aload_n 0, 1, 0, []), (49, .getfield 41, 3, 0, []), (52, .iconst 1, 1, 0, []), (53, .iastore, 1, 0, []), (54, .aload_n 0, 1, 0, []), (55, .getfield 35, 3, 0, []), (58, .aload_n 0, 1, 0, []), (59, .getfield 41, 3, 0, []), (62, .iconst (-1), 1, 0, []), (63, .iastore, 1, 0, []), (64, .aload_n 0, 1, 0, []), (65, .dup, 1, 0, []), (66, .getfield 41, 3, 0, []), (69, .iconst 1, 1, 0, []), (70, .iadd, 1, 0, []), (71, .putfield 41, 3, 0, []), (74, .iconst 1, 1, 0, []), (75, .ireturn, 1, 0, [])]
theorem zd_X8_isOpened : ∀ q ∈ zc_X8_isOpened, decode prog_10_method_4_code q.1 = .ok (q.2.1, q.2.2.1) := by decide +kernel
def zc_X5_wholeSum : List (Nat × ClassFile.Instr × Nat × Nat × List (Nat × Int × Nat)) := [(0, .aload_n 0, 1, 0, []), (1, .getfield 16, 3, 0, []), (4, .aload_n 1, 1, 0, []), (5, .aload_n 0, 1, 0, []), (6, .getfield 16, 3, 0, []), (9, .getfield 117, 3, 0, []), (12, .invokevirtual 108, 3, 0, []), (15, .aload_n 0, 1, 0, []), (16, .iconst 0, 1, 0, []), (17, .invokevirtual 126, 3, 0, []), (20, .ifCond .ne 5, 3, 0, []), (23, .iconst 0, 1, 0, []), (24, .ireturn, 1, 0, []), (25, .aload_n 0, 1, 0, []), (26, .getfield 16, 3, 0, []), (29, .iconst 0, 1, 0, []), (30, .iconst 0, 1, 0, []), (31, .invokevirtual 123, 3, 0, []), (34, .pop, 1, 0, []), (35, .iconst 1, 1, 0, []), (36, .ireturn, 1, 0, [])]
theorem zd_X5_wholeSum : ∀ q ∈ zc_X5_wholeSum, decode prog_7_method_7_code q.1 = .ok (q.2.1, q.2.2.1) := by decide +kernel
def zc_X8_tell : List (Nat × ClassFile.Instr × Nat × Nat × List (Nat × Int × Nat)) := [(0, .aload_n 0, 1, 0, []), (1, .getfield 41, 3, 0, []), (4, .iconst 1, 1, 0, []), (5, .if_icmp .lt 21, 3, 0, []), (8, .aload_n 0, 1, 0, []), (9, .getfield 41, 3, 0, []), (12, .aload_n 1, 1, 0, []), (13, .arraylength, 1, 0, []), (14, .if_icmp .gt 12, 3, 0, []), (17, .aload_n 1, 1, 0, []), (18, .aload_n 0, 1, 0, []), (19, .getfield 41, 3, 0, []), (22, .iconst 1, 1, 0, []), (23, .isub, 1, 0, []), (24, .iload_n 2, 1, 0, []), (25, .iastore, 1, 0, []), (26, .return_, 1, 0, [])]
theorem zd_X8_tell : ∀ q ∈ zc_X8_tell, decode prog_10_method_5_code q.1 = .ok (q.2.1, q.2.2.1) := by decide +kernel
def zc_X5_sum : List (Nat × ClassFile.Instr × Nat × Nat × List (Nat × Int × Nat)) := [(0, .aload_n 0, 1, 0, []), (1, .iload_n 1, 1, 0, []), (2, .invokevirtual 152, 3, 0, []), (5, .ifCond .ne 5, 3, 0, []), (8, .iconst 0, 1, 0, []), (9, .ireturn, 1, 0, []), (10, .iconst 0, 1, 0, []), (11, .istore_n 2, 1, 0, []), (12, .iload_n 2, 1, 0, []), (13, .sipush 400, 3, 0, []), (16, .if_icmp .ge 80, 3, 0, []), (19, .aload_n 0, 1, 0, []), (20, .getfield 24, 3, 0, []), (23, .bipush 43, 2, 0, []), (25, .invokevirtual 53, 3, 0, []), (28, .ifCond .ne 15, 3, 0, []), (31, .aload_n 0, 1, 0, []), (32, .getfield 24, 3, 0, []), (35, .bipush 45, 2, 0, []), (37, .invokevirtual 53, 3, 0, []), (40, .ifCond .eq 56, 3, 0, []), (43, .aload_n 0, 1, 0, []), (44, .getfield 24, 3, 0, []), (47, .bipush 43, 2, 0, []), (49, .invokevirtual 53, 3, 0, []), (52, .ifCond .eq 8, 3, 0, []), (55, .bipush 6, 2, 0, []), (57, .goto 5, 3, 0, []), (60, .bipush 7, 2, 0, []), (62, .istore_n 3, 1, 0, []), (63, .aload_n 0, 1, 0, []), (64, .getfield 24, 3, 0, []), (67, .invokevirtual 60, 3, 0, []), (70, .aload_n 0, 1, 0, []), (71, .iload_n 1, 1, 0, []), (72, .invokevirtual 152, 3, 0, []), (75, .ifCond .ne 5, 3, 0, []), (78, .iconst 0, 1, 0, []), (79, .ireturn, 1, 0, []), (80, .aload_n 0, 1, 0, []), (81, .getfield 16, 3, 0, []), (84, .iload_n 3, 1, 0, []), (85, .iconst 0, 1, 0, []), (86, .invokevirtual 123, 3, 0, []), (89, .pop, 1, 0, []), (90, .iinc 2 1, 3, 0, []), (93, .goto (-81), 3, 0, []), (96, .iconst 1, 1, 0, []), (97, .ireturn, 1, 0, [])]
theorem zd_X5_sum : ∀ q ∈ zc_X5_sum, decode prog_7_method_13_code q.1 = .ok (q.2.1, q.2.2.1) := by decide +kernel
def zc_X5_term : List (Nat × ClassFile.Instr × Nat × Nat × List (Nat × Int × Nat)) := [(0, .aload_n 0, 1, 0, []), (1, .iload_n 1, 1, 0, []), (2, .invokevirtual 155, 3, 0, []), (5, .ifCond .ne 5, 3, 0, []), (8, .iconst 0, 1, 0, []), (9, .ireturn, 1, 0, []), (10, .aload_n 0, 1, 0, []), (11, .invokevirtual 158, 3, 0, []), (14, .istore_n 2, 1, 0, []), (15, .iconst 0, 1, 0, []), (16, .istore_n 3, 1, 0, []), (17, .iload_n 3, 1, 0, []), (18, .sipush 400, 3, 0, []), (21, .if_icmp .ge 46, 3, 0, []), (24, .iload_n 2, 1, 0, []), (25, .iconst (-1), 1, 0, []), (26, .if_icmp .eq 41, 3, 0, []), (29, .aload_n 0, 1, 0, []), (30, .getfield 24, 3, 0, []), (33, .invokevirtual 60, 3, 0, []), (36, .aload_n 0, 1, 0, []), (37, .iload_n 1, 1, 0, []), (38, .invokevirtual 155, 3, 0, []), (41, .ifCond .ne 5, 3, 0, []), (44, .iconst 0, 1, 0, []), (45, .ireturn, 1, 0, []), (46, .aload_n 0, 1, 0, []), (47, .getfield 16, 3, 0, []), (50, .iload_n 2, 1, 0, []), (51, .iconst 0, 1, 0, []), (52, .invokevirtual 123, 3, 0, []), (55, .pop, 1, 0, []), (56, .aload_n 0, 1, 0, []), (57, .invokevirtual 158, 3, 0, []), (60, .istore_n 2, 1, 0, []), (61, .iinc 3 1, 3, 0, []), (64, .goto (-47), 3, 0, []), (67, .iconst 1, 1, 0, []), (68, .ireturn, 1, 0, [])]
theorem zd_X5_term : ∀ q ∈ zc_X5_term, decode prog_7_method_14_code q.1 = .ok (q.2.1, q.2.2.1) := by decide +kernel
def zc_X5_part : List (Nat × ClassFile.Instr × Nat × Nat × List (Nat × Int × Nat)) := [(0, .aload_n 0, 1, 0, []), (1, .getfield 24, 3, 0, []), (4, .bipush 91, 2, 0, []), (6, .invokevirtual 53, 3, 0, []), (9, .ifCond .eq 51, 3, 0, []), (12, .iload_n 1, 1, 0, []), (13, .bipush 8, 2, 0, []), (15, .if_icmp .lt 5, 3, 0, []), (18, .iconst 0, 1, 0, []), (19, .ireturn, 1, 0, []), (20, .aload_n 0, 1, 0, []), (21, .getfield 24, 3, 0, []), (24, .invokevirtual 60, 3, 0, []), (27, .aload_n 0, 1, 0, []), (28, .iload_n 1, 1, 0, []), (29, .iconst 1, 1, 0, []), (30, .iadd, 1, 0, []), (31, .invokevirtual 126, 3, 0, []), (34, .ifCond .eq 15, 3, 0, []), (37, .aload_n 0, 1, 0, []), (38, .getfield 24, 3, 0, []), (41, .bipush 93, 2, 0, []), (43, .invokevirtual 53, 3, 0, []), (46, .ifCond .ne 5, 3, 0, []), (49, .iconst 0, 1, 0, []), (50, .ireturn, 1, 0, []), (51, .aload_n 0, 1, 0, []), (52, .getfield 24, 3, 0, []), (55, .invokevirtual 60, 3, 0, []), (58, .iconst 1, 1, 0, []), (59, .ireturn, 1, 0, []), (60, .aload_n 0, 1, 0, []), (61, .getfield 32, 3, 0, []), (64, .bipush 50, 2, 0, []), (66, .if_icmp .lt 5, 3, 0, []), (69, .iconst 0, 1, 0, []), (70, .ireturn, 1, 0, []), (71, .aload_n 0, 1, 0, []), (72, .dup, 1, 0, []), (73, .getfield 32, 3, 0, []), (76, .iconst 1, 1, 0, []), (77, .iadd, 1, 0, []), (78, .putfield 32, 3, 0, []), (81, .aload_n 0, 1, 0, []), (82, .getfield 24, 3, 0, []), (85, .getfield 50, 3, 0, []), (88, .iconst 2, 1, 0, []), (89, .if_icmp .ne 7, 3, 0, []), (92, .iconst 1, 1, 0, []), (93, .goto 4, 3, 0, []), (96, .iconst 2, 1, 0, []), (97, .istore_n 2, 1, 0, []), (98, .iload_n 2, 1, 0, []), (99, .iconst 1, 1, 0, []), (100, .if_icmp .ne 17, 3, 0, []), (103, .aload_n 0, 1, 0, []), (104, .getfield 24, 3, 0, []), (107, .iconst 0, 1, 0, []), (108, .sipush 1000, 3, 0, []), (111, .invokevirtual 102, 3, 0, []), (114, .goto 24, 3, 0, []), (117, .aload_n 0, 1, 0, []), (118, .getfield 24, 3, 0, []), (121, .aload_n 0, 1, 0, []), (122, .getfield 28, 3, 0, []), (125, .ifCond .eq 8, 3, 0, []), (128, .ldc 161, 2, 0, []), (130, .goto 5, 3, 0, []), (133, .ldc 163, 2, 0, []), (135, .invokevirtual 65, 3, 0, []), (138, .istore_n 3, 1, 0, []), (139, .iload_n 3, 1, 0, []), (140, .iconst (-1), 1, 0, []), (141, .if_icmp .ne 5, 3, 0, []), (144, .iconst 0, 1, 0, []), (145, .ireturn, 1, 0, []), (146, .aload_n 0, 1, 0, []), (147, .getfield 24, 3, 0, []), (150, .invokevirtual 60, 3, 0, []), (153, .aload_n 0, 1, 0, []), (154, .getfield 28, 3, 0, []), (157, .ifCond .eq 76, 3, 0, []), (160, .iload_n 2, 1, 0, []), (161, .iconst 2, 1, 0, []), (162, .if_icmp .ne 71, 3, 0, []), (165, .iload_n 3, 1, 0, []), (166, .iconst 5, 1, 0, []), (167, .if_icmp .lt 66, 3, 0, []), (170, .iload_n 3, 1, 0, []), (171, .iconst 5, 1, 0, []), (172, .if_icmp .ne 7, 3, 0, []), (175, .iconst 1, 1, 0, []), (176, .goto 4, 3, 0, []), (179, .iconst 0, 1, 0, []), (180, .istore 4, 2, 0, []), (182, .aload_n 0, 1, 0, []), (183, .getfield 24, 3, 0, []), (186, .iconst 0, 1, 0, []), (187, .iload 4, 2, 0, []), (189, .ifCond .eq 7, 3, 0, []), (192, .iconst 5, 1, 0, []), (193, .goto 5, 3, 0, []), (196, .bipush 9, 2, 0, []), (198, .invokevirtual 102, 3, 0, []), (201, .istore 5, 2, 0, []), (203, .iload 5, 2, 0, []), (205, .iconst (-1), 1, 0, []), (206, .if_icmp .ne 5, 3, 0, []), (209, .iconst 0, 1, 0, []), (210, .ireturn, 1, 0, []), (211, .aload_n 0, 1, 0, []), (212, .getfield 24, 3, 0, []), (215, .invokevirtual 60, 3, 0, []), (218, .iload 4, 2, 0, []), (220, .ifCond .eq 7, 3, 0, []), (223, .iconst 5, 1, 0, []), (224, .goto 5, 3, 0, []), (227, .bipush 11, 2, 0, []), (229, .iload 5, 2, 0, []), (231, .iadd, 1, 0, []), (232, .istore_n 3, 1, 0, []), (233, .aload_n 0, 1, 0, []), (234, .getfield 16, 3, 0, []), (237, .iload_n 2, 1, 0, []), (238, .iload_n 3, 1, 0, []), (239, .invokevirtual 123, 3, 0, []), (242, .pop, 1, 0, []), (243, .iconst 1, 1, 0, []), (244, .ireturn, 1, 0, [])]
theorem zd_X5_part : ∀ q ∈ zc_X5_part, decode prog_7_method_16_code q.1 = .ok (q.2.1, q.2.2.1) := by decide +kernel
def zc_X7_isSign : List (Nat × ClassFile.Instr × Nat × Nat × List (Nat × Int × Nat)) := [(0, .aload_n 0, 1, 0, []), (1, .getfield 32, 3, 0, []), (4, .iload_n 1, 1, 0, []), (5, .if_icmp .ne 7, 3, 0, []), (8, .iconst 1, 1, 0, []), (9, .goto 4, 3, 0, []), (12, .iconst 0, 1, 0, []), (13, .ireturn, 1, 0, [])]
theorem zd_X7_isSign : ∀ q ∈ zc_X7_isSign, decode prog_9_method_8_code q.1 = .ok (q.2.1, q.2.2.1) := by decide +kernel
def zc_X7_numberWithin : List (Nat × ClassFile.Instr × Nat × Nat × List (Nat × Int × Nat)) := [(0, .aload_n 0, 1, 0, []), (1, .getfield 35, 3, 0, []), (4, .iconst 2, 1, 0, []), (5, .if_icmp .eq 5, 3, 0, []), (8, .iconst (-1), 1, 0, []), (9, .ireturn, 1, 0, []), (10, .iconst 0, 1, 0, []), (11, .istore_n 3, 1, 0, []), (12, .aload_n 0, 1, 0, []), (13, .getfield 29, 3, 0, []), (16, .istore 4, 2, 0, []), (18, .iload 4, 2, 0, []), (20, .aload_n 0, 1, 0, []), (21, .getfield 19, 3, 0, []), (24, .if_icmp .ge 30, 3, 0, []), (27, .sipush 10000, 3, 0, []), (30, .iload_n 3, 1, 0, []), (31, .bipush 10, 2, 0, []), (33, .imul, 1, 0, []), (34, .aload_n 0, 1, 0, []), (35, .iload 4, 2, 0, []), (37, .invokevirtual 25, 3, 0, []), (40, .iadd, 1, 0, []), (41, .bipush 48, 2, 0, []), (43, .isub, 1, 0, []), (44, .invokestatic 54, 3, 0, []), (47, .istore_n 3, 1, 0, []), (48, .iinc 4 1, 3, 0, []), (51, .goto (-33), 3, 0, []), (54, .iload_n 3, 1, 0, []), (55, .iload_n 1, 1, 0, []), (56, .iload_n 2, 1, 0, []), (57, .invokestatic 60, 3, 0, []), (60, .ifCond .eq 7, 3, 0, []), (63, .iload_n 3, 1, 0, []), (64, .goto 4, 3, 0, []), (67, .iconst (-1), 1, 0, []), (68, .ireturn, 1, 0, [])]
theorem zd_X7_numberWithin : ∀ q ∈ zc_X7_numberWithin, decode prog_9_method_11_code q.1 = .ok (q.2.1, q.2.2.1) := by decide +kernel
def zc_X8_add : List (Nat × ClassFile.Instr × Nat × Nat × List (Nat × Int × Nat)) := [(0, .aload_n 0, 1, 0, []), (1, .getfield 45, 3, 0, []), (4, .istore_n 3, 1, 0, []), (5, .iload_n 3, 1, 0, []), (6, .iconst 1, 1, 0, []), (7, .iadd, 1, 0, []), (8, .aload_n 0, 1, 0, []), (9, .getfield 38, 3, 0, []), (12, .arraylength, 1, 0, []), (13, .if_icmp .ge 26, 3, 0, []), (16, .aload_n 0, 1, 0, []), (17, .getfield 38, 3, 0, []), (20, .iload_n 3, 1, 0, []), (21, .iload_n 1, 1, 0, []), (22, .iastore, 1, 0, []), (23, .aload_n 0, 1, 0, []), (24, .getfield 38, 3, 0, []), (27, .iload_n 3, 1, 0, []), (28, .iconst 1, 1, 0, []), (29, .iadd, 1, 0, []), (30, .iload_n 2, 1, 0, []), (31, .iastore, 1, 0, []), (32, .aload_n 0, 1, 0, []), (33, .iload_n 3, 1, 0, []), (34, .iconst 2, 1, 0, []), (35, .iadd, 1, 0, []), (36, .putfield 45, 3, 0, []), (39, .iload_n 3, 1, 0, []), (40, .ireturn, 1, 0, [])]
theorem zd_X8_add : ∀ q ∈ zc_X8_add, decode prog_10_method_6_code q.1 = .ok (q.2.1, q.2.2.1) := by decide +kernel
def zc_X5_timesOrBy : List (Nat × ClassFile.Instr × Nat × Nat × List (Nat × Int × Nat)) := [(0, .aload_n 0, 1, 0, []), (1, .getfield 24, 3, 0, []), (4, .bipush 42, 2, 0, []), (6, .invokevirtual 53, 3, 0, []), (9, .ifCond .eq 6, 3, 0, []), (12, .bipush 8, 2, 0, []), (14, .ireturn, 1, 0, []), (15, .aload_n 0, 1, 0, []), (16, .getfield 24, 3, 0, []), (19, .bipush 47, 2, 0, []), (21, .invokevirtual 53, 3, 0, []), (24, .ifCond .eq 6, 3, 0, []), (27, .bipush 9, 2, 0, []), (29, .ireturn, 1, 0, []), (30, .aload_n 0, 1, 0, []), (31, .getfield 24, 3, 0, []), (34, .bipush 37, 2, 0, []), (36, .invokevirtual 53, 3, 0, []), (39, .ifCond .eq 8, 3, 0, []), (42, .bipush 10, 2, 0, []), (44, .goto 4, 3, 0, []), (47, .iconst (-1), 1, 0, []), (48, .ireturn, 1, 0, [])]
theorem zd_X5_timesOrBy : ∀ q ∈ zc_X5_timesOrBy, decode prog_7_method_15_code q.1 = .ok (q.2.1, q.2.2.1) := by decide +kernel
def zc_X7_isWord : List (Nat × ClassFile.Instr × Nat × Nat × List (Nat × Int × Nat)) := [(0, .aload_n 0, 1, 0, []), (1, .aload_n 1, 1, 0, []), (2, .invokevirtual 41, 3, 0, []), (5, .ifCond .ne 7, 3, 0, []), (8, .iconst 1, 1, 0, []), (9, .goto 4, 3, 0, []), (12, .iconst 0, 1, 0, []), (13, .ireturn, 1, 0, [])]
theorem zd_X7_isWord : ∀ q ∈ zc_X7_isWord, decode prog_9_method_9_code q.1 = .ok (q.2.1, q.2.2.1) := by decide +kernel
def zc_X5_repeats : List (Nat × ClassFile.Instr × Nat × Nat × List (Nat × Int × Nat)) := [(0, .aload_n 0, 1, 0, []), (1, .getfield 24, 3, 0, []), (4, .ldc 100, 2, 0, []), (6, .invokevirtual 90, 3, 0, []), (9, .ifCond .ne 5, 3, 0, []), (12, .iconst 1, 1, 0, []), (13, .ireturn, 1, 0, []), (14, .aload_n 0, 1, 0, []), (15, .getfield 24, 3, 0, []), (18, .invokevirtual 60, 3, 0, []), (21, .aload_n 0, 1, 0, []), (22, .getfield 24, 3, 0, []), (25, .iconst 1, 1, 0, []), (26, .bipush 20, 2, 0, []), (28, .invokevirtual 102, 3, 0, []), (31, .istore_n 1, 1, 0, []), (32, .iload_n 1, 1, 0, []), (33, .iconst (-1), 1, 0, []), (34, .if_icmp .ne 5, 3, 0, []), (37, .iconst 0, 1, 0, []), (38, .ireturn, 1, 0, []), (39, .aload_n 0, 1, 0, []), (40, .getfield 16, 3, 0, []), (43, .aload_n 0, 1, 0, []), (44, .getfield 16, 3, 0, []), (47, .getfield 106, 3, 0, []), (50, .iload_n 1, 1, 0, []), (51, .invokevirtual 108, 3, 0, []), (54, .aload_n 0, 1, 0, []), (55, .getfield 24, 3, 0, []), (58, .invokevirtual 60, 3, 0, []), (61, .iconst 1, 1, 0, []), (62, .ireturn, 1, 0, [])]
theorem zd_X5_repeats : ∀ q ∈ zc_X5_repeats, decode prog_7_method_5_code q.1 = .ok (q.2.1, q.2.2.1) := by decide +kernel
def zc_X5_condition : List (Nat × ClassFile.Instr × Nat × Nat × List (Nat × Int × Nat)) := [(0, .aload_n 0, 1, 0, []), (1, .getfield 24, 3, 0, []), (4, .ldc 112, 2, 0, []), (6, .invokevirtual 90, 3, 0, []), (9, .ifCond .ne 5, 3, 0, []), (12, .iconst 1, 1, 0, []), (13, .ireturn, 1, 0, []), (14, .aload_n 0, 1, 0, []), (15, .getfield 24, 3, 0, []), (18, .invokevirtual 60, 3, 0, []), (21, .aload_n 0, 1, 0, []), (22, .getfield 16, 3, 0, []), (25, .aload_n 0, 1, 0, []), (26, .getfield 16, 3, 0, []), (29, .getfield 114, 3, 0, []), (32, .aload_n 0, 1, 0, []), (33, .getfield 16, 3, 0, []), (36, .getfield 117, 3, 0, []), (39, .invokevirtual 108, 3, 0, []), (42, .aload_n 0, 1, 0, []), (43, .iconst 0, 1, 0, []), (44, .invokevirtual 120, 3, 0, []), (47, .ifCond .ne 5, 3, 0, []), (50, .iconst 0, 1, 0, []), (51, .ireturn, 1, 0, []), (52, .aload_n 0, 1, 0, []), (53, .getfield 16, 3, 0, []), (56, .iconst 0, 1, 0, []), (57, .iconst 0, 1, 0, []), (58, .invokevirtual 123, 3, 0, []), (61, .pop, 1, 0, []), (62, .iconst 1, 1, 0, []), (63, .ireturn, 1, 0, [])]
theorem zd_X5_condition : ∀ q ∈ zc_X5_condition, decode prog_7_method_6_code q.1 = .ok (q.2.1, q.2.2.1) := by decide +kernel
def zc_X5_test : List (Nat × ClassFile.Instr × Nat × Nat × List (Nat × Int × Nat)) := [(0, .aload_n 0, 1, 0, []), (1, .iload_n 1, 1, 0, []), (2, .invokevirtual 129, 3, 0, []), (5, .ifCond .ne 5, 3, 0, []), (8, .iconst 0, 1, 0, []), (9, .ireturn, 1, 0, []), (10, .iconst 0, 1, 0, []), (11, .istore_n 2, 1, 0, []), (12, .iload_n 2, 1, 0, []), (13, .sipush 400, 3, 0, []), (16, .if_icmp .ge 56, 3, 0, []), (19, .aload_n 0, 1, 0, []), (20, .getfield 24, 3, 0, []), (23, .ldc 132, 2, 0, []), (25, .invokevirtual 90, 3, 0, []), (28, .ifCond .eq 44, 3, 0, []), (31, .aload_n 0, 1, 0, []), (32, .getfield 24, 3, 0, []), (35, .invokevirtual 60, 3, 0, []), (38, .aload_n 0, 1, 0, []), (39, .getfield 16, 3, 0, []), (42, .iconst 5, 1, 0, []), (43, .iconst 0, 1, 0, []), (44, .invokevirtual 123, 3, 0, []), (47, .istore_n 3, 1, 0, []), (48, .aload_n 0, 1, 0, []), (49, .iload_n 1, 1, 0, []), (50, .invokevirtual 129, 3, 0, []), (53, .ifCond .ne 5, 3, 0, []), (56, .iconst 0, 1, 0, []), (57, .ireturn, 1, 0, []), (58, .aload_n 0, 1, 0, []), (59, .getfield 16, 3, 0, []), (62, .iload_n 3, 1, 0, []), (63, .invokevirtual 134, 3, 0, []), (66, .iinc 2 1, 3, 0, []), (69, .goto (-57), 3, 0, []), (72, .iconst 1, 1, 0, []), (73, .ireturn, 1, 0, [])]
theorem zd_X5_test : ∀ q ∈ zc_X5_test, decode prog_7_method_8_code q.1 = .ok (q.2.1, q.2.2.1) := by decide +kernel
def zc_X5_both : List (Nat × ClassFile.Instr × Nat × Nat × List (Nat × Int × Nat)) := [(0, .aload_n 0, 1, 0, []), (1, .iload_n 1, 1, 0, []), (2, .invokevirtual 138, 3, 0, []), (5, .ifCond .ne 5, 3, 0, []), (8, .iconst 0, 1, 0, []), (9, .ireturn, 1, 0, []), (10, .iconst 0, 1, 0, []), (11, .istore_n 2, 1, 0, []), (12, .iload_n 2, 1, 0, []), (13, .sipush 400, 3, 0, []), (16, .if_icmp .ge 56, 3, 0, []), (19, .aload_n 0, 1, 0, []), (20, .getfield 24, 3, 0, []), (23, .ldc 141, 2, 0, []), (25, .invokevirtual 90, 3, 0, []), (28, .ifCond .eq 44, 3, 0, []), (31, .aload_n 0, 1, 0, []), (32, .getfield 24, 3, 0, []), (35, .invokevirtual 60, 3, 0, []), (38, .aload_n 0, 1, 0, []), (39, .getfield 16, 3, 0, []), (42, .iconst 4, 1, 0, []), (43, .iconst 0, 1, 0, []), (44, .invokevirtual 123, 3, 0, []), (47, .istore_n 3, 1, 0, []), (48, .aload_n 0, 1, 0, []), (49, .iload_n 1, 1, 0, []), (50, .invokevirtual 138, 3, 0, []), (53, .ifCond .ne 5, 3, 0, []), (56, .iconst 0, 1, 0, []), (57, .ireturn, 1, 0, []), (58, .aload_n 0, 1, 0, []), (59, .getfield 16, 3, 0, []), (62, .iload_n 3, 1, 0, []), (63, .invokevirtual 134, 3, 0, []), (66, .iinc 2 1, 3, 0, []), (69, .goto (-57), 3, 0, []), (72, .iconst 1, 1, 0, []), (73, .ireturn, 1, 0, [])]
theorem zd_X5_both : ∀ q ∈ zc_X5_both, decode prog_7_method_9_code q.1 = .ok (q.2.1, q.2.2.1) := by decide +kernel
def zc_X5_plain : List (Nat × ClassFile.Instr × Nat × Nat × List (Nat × Int × Nat)) := [(0, .iconst 0, 1, 0, []), (1, .istore_n 2, 1, 0, []), (2, .iconst 0, 1, 0, []), (3, .istore_n 3, 1, 0, []), (4, .iload_n 3, 1, 0, []), (5, .sipush 400, 3, 0, []), (8, .if_icmp .ge 38, 3, 0, []), (11, .aload_n 0, 1, 0, []), (12, .getfield 24, 3, 0, []), (15, .ldc 143, 2, 0, []), (17, .invokevirtual 90, 3, 0, []), (20, .ifCond .eq 26, 3, 0, []), (23, .aload_n 0, 1, 0, []), (24, .getfield 24, 3, 0, []), (27, .invokevirtual 60, 3, 0, []), (30, .iload_n 2, 1, 0, []), (31, .ifCond .ne 7, 3, 0, []), (34, .iconst 1, 1, 0, []), (35, .goto 4, 3, 0, []), (38, .iconst 0, 1, 0, []), (39, .istore_n 2, 1, 0, []), (40, .iinc 3 1, 3, 0, []), (43, .goto (-39), 3, 0, []), (46, .aload_n 0, 1, 0, []), (47, .getfield 24, 3, 0, []), (50, .bipush 40, 2, 0, []), (52, .invokevirtual 53, 3, 0, []), (55, .ifCond .eq 13, 3, 0, []), (58, .aload_n 0, 1, 0, []), (59, .iload_n 1, 1, 0, []), (60, .invokevirtual 145, 3, 0, []), (63, .ifCond .ne 54, 3, 0, []), (66, .iconst 0, 1, 0, []), (67, .ireturn, 1, 0, []), (68, .aload_n 0, 1, 0, []), (69, .iload_n 1, 1, 0, []), (70, .invokevirtual 126, 3, 0, []), (73, .ifCond .ne 5, 3, 0, []), (76, .iconst 0, 1, 0, []), (77, .ireturn, 1, 0, []), (78, .aload_n 0, 1, 0, []), (79, .invokevirtual 148, 3, 0, []), (82, .istore_n 3, 1, 0, []), (83, .iload_n 3, 1, 0, []), (84, .iconst (-1), 1, 0, []), (85, .if_icmp .ne 5, 3, 0, []), (88, .iconst 0, 1, 0, []), (89, .ireturn, 1, 0, []), (90, .aload_n 0, 1, 0, []), (91, .getfield 24, 3, 0, []), (94, .invokevirtual 60, 3, 0, []), (97, .aload_n 0, 1, 0, []), (98, .iload_n 1, 1, 0, []), (99, .invokevirtual 126, 3, 0, []), (102, .ifCond .ne 5, 3, 0, []), (105, .iconst 0, 1, 0, []), (106, .ireturn, 1, 0, []), (107, .aload_n 0, 1, 0, []), (108, .getfield 16, 3, 0, []), (111, .iload_n 3, 1, 0, []), (112, .iconst 0, 1, 0, []), (113, .invokevirtual 123, 3, 0, []), (116, .pop, 1, 0, []), (117, .iload_n 2, 1, 0, []), (118, .ifCond .eq 13, 3, 0, []), (121, .aload_n 0, 1, 0, []), (122, .getfield 16, 3, 0, []), (125, .iconst 3, 1, 0, []), (126, .iconst 0, 1, 0, []), (127, .invokevirtual 123, 3, 0, []), (130, .pop, 1, 0, []), (131, .iconst 1, 1, 0, []), (132, .ireturn, 1, 0, [])]
theorem zd_X5_plain : ∀ q ∈ zc_X5_plain, decode prog_7_method_10_code q.1 = .ok (q.2.1, q.2.2.1) := by decide +kernel
def zc_X5_bracketed : List (Nat × ClassFile.Instr × Nat × Nat × List (Nat × Int × Nat)) := [(0, .iload_n 1, 1, 0, []), (1, .bipush 8, 2, 0, []), (3, .if_icmp .lt 5, 3, 0, []), (6, .iconst 0, 1, 0, []), (7, .ireturn, 1, 0, []), (8, .aload_n 0, 1, 0, []), (9, .getfield 24, 3, 0, []), (12, .invokevirtual 60, 3, 0, []), (15, .aload_n 0, 1, 0, []), (16, .iload_n 1, 1, 0, []), (17, .iconst 1, 1, 0, []), (18, .iadd, 1, 0, []), (19, .invokevirtual 120, 3, 0, []), (22, .ifCond .eq 15, 3, 0, []), (25, .aload_n 0, 1, 0, []), (26, .getfield 24, 3, 0, []), (29, .bipush 41, 2, 0, []), (31, .invokevirtual 53, 3, 0, []), (34, .ifCond .ne 5, 3, 0, []), (37, .iconst 0, 1, 0, []), (38, .ireturn, 1, 0, []), (39, .aload_n 0, 1, 0, []), (40, .getfield 24, 3, 0, []), (43, .invokevirtual 60, 3, 0, []), (46, .iconst 1, 1, 0, []), (47, .ireturn, 1, 0, [])]
theorem zd_X5_bracketed : ∀ q ∈ zc_X5_bracketed, decode prog_7_method_12_code q.1 = .ok (q.2.1, q.2.2.1) := by decide +kernel
def zc_X5_comparison : List (Nat × ClassFile.Instr × Nat × Nat × List (Nat × Int × Nat)) := [(0, .aload_n 0, 1, 0, []), (1, .getfield 24, 3, 0, []), (4, .bipush 60, 2, 0, []), (6, .invokevirtual 53, 3, 0, []), (9, .ifCond .eq 6, 3, 0, []), (12, .bipush 11, 2, 0, []), (14, .ireturn, 1, 0, []), (15, .aload_n 0, 1, 0, []), (16, .getfield 24, 3, 0, []), (19, .bipush 62, 2, 0, []), (21, .invokevirtual 53, 3, 0, []), (24, .ifCond .eq 6, 3, 0, []), (27, .bipush 12, 2, 0, []), (29, .ireturn, 1, 0, []), (30, .aload_n 0, 1, 0, []), (31, .getfield 24, 3, 0, []), (34, .bipush 61, 2, 0, []), (36, .invokevirtual 53, 3, 0, []), (39, .ifCond .eq 8, 3, 0, []), (42, .bipush 13, 2, 0, []), (44, .goto 4, 3, 0, []), (47, .iconst (-1), 1, 0, []), (48, .ireturn, 1, 0, [])]
theorem zd_X5_comparison : ∀ q ∈ zc_X5_comparison, decode prog_7_method_11_code q.1 = .ok (q.2.1, q.2.2.1) := by decide +kernel
def zc_X8_leapHere : List (Nat × ClassFile.Instr × Nat × Nat × List (Nat × Int × Nat)) := [(0, .iload_n 1, 1, 0, []), (1, .ifCond .lt 26, 3, 0, []), (4, .iload_n 1, 1, 0, []), (5, .iconst 1, 1, 0, []), (6, .iadd, 1, 0, []), (7, .aload_n 0, 1, 0, []), (8, .getfield 38, 3, 0, []), (11, .arraylength, 1, 0, []), (12, .if_icmp .ge 15, 3, 0, []), (15, .aload_n 0, 1, 0, []), (16, .getfield 38, 3, 0, []), (19, .iload_n 1, 1, 0, []), (20, .iconst 1, 1, 0, []), (21, .iadd, 1, 0, []), (22, .aload_n 0, 1, 0, []), (23, .getfield 45, 3, 0, []), (26, .iastore, 1, 0, []), (27, .return_, 1, 0, [])]
theorem zd_X8_leapHere : ∀ q ∈ zc_X8_leapHere, decode prog_10_method_7_code q.1 = .ok (q.2.1, q.2.2.1) := by decide +kernel
def zc_X5_lawClause : List (Nat × ClassFile.Instr × Nat × Nat × List (Nat × Int × Nat)) := [(0, .aload_n 0, 1, 0, []), (1, .getfield 24, 3, 0, []), (4, .ldc 63, 2, 0, []), (6, .invokevirtual 65, 3, 0, []), (9, .istore_n 1, 1, 0, []), (10, .iload_n 1, 1, 0, []), (11, .iconst (-1), 1, 0, []), (12, .if_icmp .eq 14, 3, 0, []), (15, .aload_n 0, 1, 0, []), (16, .getfield 16, 3, 0, []), (19, .iload_n 1, 1, 0, []), (20, .invokevirtual 69, 3, 0, []), (23, .ifCond .ne 5, 3, 0, []), (26, .iconst 0, 1, 0, []), (27, .ireturn, 1, 0, []), (28, .aload_n 0, 1, 0, []), (29, .getfield 24, 3, 0, []), (32, .invokevirtual 60, 3, 0, []), (35, .iload_n 1, 1, 0, []), (36, .iconst 4, 1, 0, []), (37, .if_icmp .eq 17, 3, 0, []), (40, .aload_n 0, 1, 0, []), (41, .aload_n 0, 1, 0, []), (42, .getfield 16, 3, 0, []), (45, .getfield 75, 3, 0, []), (48, .invokevirtual 79, 3, 0, []), (51, .ifCond .eq 14, 3, 0, []), (54, .aload_n 0, 1, 0, []), (55, .invokevirtual 83, 3, 0, []), (58, .ifCond .eq 7, 3, 0, []), (61, .iconst 1, 1, 0, []), (62, .goto 4, 3, 0, []), (65, .iconst 0, 1, 0, []), (66, .ireturn, 1, 0, [])]
theorem zd_X5_lawClause : ∀ q ∈ zc_X5_lawClause, decode prog_7_method_3_code q.1 = .ok (q.2.1, q.2.2.1) := by decide +kernel
def zc_X8_copy : List (Nat × ClassFile.Instr × Nat × Nat × List (Nat × Int × Nat)) := [(0, .new 3, 3, 0, []), (3, .dup, 1, 0, []), (4, .aload_n 0, 1, 0, []), (5, .getfield 41, 3, 0, []), (8, .aload_n 0, 1, 0, []), (9, .getfield 45, 3, 0, []), (12, .invokespecial 48, 3, 0, []), (15, .astore_n 1, 1, 0, []), (16, .aload_n 1, 1, 0, []), (17, .getfield 22, 3, 0, []), (20, .arraylength, 1, 0, []), (21, .istore_n 2, 1, 0, []), (22, .aload_n 0, 1, 0, []), (23, .getfield 22, 3, 0, []), (26, .iconst 0, 1, 0, []), (27, .aload_n 1, 1, 0, []), (28, .getfield 22, 3, 0, []), (31, .iconst 0, 1, 0, []), (32, .iload_n 2, 1, 0, []), (33, .invokestatic 51, 3, 0, []), (36, .aload_n 0, 1, 0, []), (37, .getfield 26, 3, 0, []), (40, .iconst 0, 1, 0, []), (41, .aload_n 1, 1, 0, []), (42, .getfield 26, 3, 0, []), (45, .iconst 0, 1, 0, []), (46, .iload_n 2, 1, 0, []), (47, .invokestatic 51, 3, 0, []), (50, .aload_n 0, 1, 0, []), (51, .getfield 29, 3, 0, []), (54, .iconst 0, 1, 0, []), (55, .aload_n 1, 1, 0, []), (56, .getfield 29, 3, 0, []), (59, .iconst 0, 1, 0, []), (60, .iload_n 2, 1, 0, []), (61, .invokestatic 51, 3, 0, []), (64, .aload_n 0, 1, 0, []), (65, .getfield 32, 3, 0, []), (68, .iconst 0, 1, 0, []), (69, .aload_n 1, 1, 0, []), (70, .getfield 32, 3, 0, []), (73, .iconst 0, 1, 0, []), (74, .iload_n 2, 1, 0, []), (75, .invokestatic 51, 3, 0, []), (78, .aload_n 0, 1, 0, []), (79, .getfield 35, 3, 0, []), (82, .iconst 0, 1, 0, []), (83, .aload_n 1, 1, 0, []), (84, .getfield 35, 3, 0, []), (87, .iconst 0, 1, 0, []), (88, .iload_n 2, 1, 0, []), (89, .invokestatic 51, 3, 0, []), (92, .aload_n 0, 1, 0, []), (93, .getfield 38, 3, 0, []), (96, .iconst 0, 1, 0, []), (97, .aload_n 1, 1, 0, []), (98, .getfield 38, 3, 0, []), (101, .iconst 0, 1, 0, []), (102, .aload_n 1, 1, 0, []), (103, .getfield 38, 3, 0, []), (106, .arraylength, 1, 0, []), (107, .invokestatic 51, 3, 0, []), (110, .aload_n 1, 1, 0, []), (111, .iload_n 2, 1, 0, []), (112, .putfield 41, 3, 0, []), (115, .aload_n 1, 1, 0, []), (116, .aload_n 1, 1, 0, []), (117, .getfield 38, 3, 0, []), (120, .arraylength, 1, 0, []), (121, .putfield 45, 3, 0, []), (124, .aload_n 1, 1, 0, []), (125, .areturn, 1, 0, [])]
theorem zd_X8_copy : ∀ q ∈ zc_X8_copy, decode prog_10_method_2_code q.1 = .ok (q.2.1, q.2.2.1) := by decide +kernel
def zc_X11_orders : List (Nat × ClassFile.Instr × Nat × Nat × List (Nat × Int × Nat)) := [(0, .aload_n 0, 1, 0, []), (1, .getfield 76, 3, 0, []), (4, .iconst 1, 1, 0, []), (5, .invokevirtual 208, 3, 0, []), (8, .istore_n 1, 1, 0, []), (9, .aload_n 0, 1, 0, []), (10, .getfield 67, 3, 0, []), (13, .iconst 0, 1, 0, []), (14, .putfield 193, 3, 0, []), (17, .aload_n 0, 1, 0, []), (18, .iconst (-1), 1, 0, []), (19, .putfield 98, 3, 0, []), (22, .iload_n 1, 1, 0, []), (23, .ifCond .ne 10, 3, 0, []), (26, .aload_n 0, 1, 0, []), (27, .bipush (-6), 2, 0, []), (29, .invokevirtual 111, 3, 0, []), (32, .ireturn, 1, 0, []), (33, .aload_n 0, 1, 0, []), (34, .getfield 83, 3, 0, []), (37, .aload_n 0, 1, 0, []), (38, .getfield 10, 3, 0, []), (41, .getfield 135, 3, 0, []), (44, .invokevirtual 226, 3, 0, []), (47, .aload_n 0, 1, 0, []), (48, .getfield 87, 3, 0, []), (51, .aload_n 0, 1, 0, []), (52, .getfield 23, 3, 0, []), (55, .invokevirtual 230, 3, 0, []), (58, .aload_n 0, 1, 0, []), (59, .iconst 0, 1, 0, []), (60, .putfield 233, 3, 0, []), (63, .aload_n 0, 1, 0, []), (64, .iconst (-1), 1, 0, []), (65, .putfield 94, 3, 0, []), (68, .iconst 0, 1, 0, []), (69, .istore_n 2, 1, 0, []), (70, .iload_n 2, 1, 0, []), (71, .aload_n 0, 1, 0, []), (72, .getfield 76, 3, 0, []), (75, .getfield 216, 3, 0, []), (78, .getfield 236, 3, 0, []), (81, .if_icmp .ge 61, 3, 0, []), (84, .aload_n 0, 1, 0, []), (85, .aload_n 0, 1, 0, []), (86, .getfield 76, 3, 0, []), (89, .getfield 216, 3, 0, []), (92, .iload_n 2, 1, 0, []), (93, .invokevirtual 239, 3, 0, []), (96, .ifCond .ne 40, 3, 0, []), (99, .aload_n 0, 1, 0, []), (100, .getfield 10, 3, 0, []), (103, .getfield 135, 3, 0, []), (106, .aload_n 0, 1, 0, []), (107, .getfield 83, 3, 0, []), (110, .invokevirtual 226, 3, 0, []), (113, .aload_n 0, 1, 0, []), (114, .getfield 23, 3, 0, []), (117, .aload_n 0, 1, 0, []), (118, .getfield 87, 3, 0, []), (121, .invokevirtual 230, 3, 0, []), (124, .aload_n 0, 1, 0, []), (125, .iload_n 2, 1, 0, []), (126, .putfield 98, 3, 0, []), (129, .aload_n 0, 1, 0, []), (130, .bipush (-3), 2, 0, []), (132, .invokevirtual 111, 3, 0, []), (135, .ireturn, 1, 0, []), (136, .iinc 2 1, 3, 0, []), (139, .goto (-69), 3, 0, []), (142, .aload_n 0, 1, 0, []), (143, .aload_n 0, 1, 0, []), (144, .getfield 233, 3, 0, []), (147, .invokevirtual 118, 3, 0, []), (150, .ireturn, 1, 0, [])]
theorem zd_X11_orders : ∀ q ∈ zc_X11_orders, decode prog_1_method_15_code q.1 = .ok (q.2.1, q.2.2.1) := by decide +kernel
def zc_X2_copyFrom : List (Nat × ClassFile.Instr × Nat × Nat × List (Nat × Int × Nat)) := [(0, .aload_n 1, 1, 0, []), (1, .getfield 9, 3, 0, []), (4, .iconst 0, 1, 0, []), (5, .aload_n 0, 1, 0, []), (6, .getfield 9, 3, 0, []), (9, .iconst 0, 1, 0, []), (10, .bipush 6, 2, 0, []), (12, .invokestatic 28, 3, 0, []), (15, .aload_n 1, 1, 0, []), (16, .getfield 15, 3, 0, []), (19, .iconst 0, 1, 0, []), (20, .aload_n 0, 1, 0, []), (21, .getfield 15, 3, 0, []), (24, .iconst 0, 1, 0, []), (25, .bipush 6, 2, 0, []), (27, .invokestatic 28, 3, 0, []), (30, .aload_n 1, 1, 0, []), (31, .getfield 18, 3, 0, []), (34, .iconst 0, 1, 0, []), (35, .aload_n 0, 1, 0, []), (36, .getfield 18, 3, 0, []), (39, .iconst 0, 1, 0, []), (40, .bipush 10, 2, 0, []), (42, .invokestatic 28, 3, 0, []), (45, .aload_n 0, 1, 0, []), (46, .aload_n 1, 1, 0, []), (47, .getfield 21, 3, 0, []), (50, .putfield 21, 3, 0, []), (53, .aload_n 0, 1, 0, []), (54, .aload_n 1, 1, 0, []), (55, .getfield 34, 3, 0, []), (58, .putfield 34, 3, 0, []), (61, .aload_n 0, 1, 0, []), (62, .aload_n 1, 1, 0, []), (63, .getfield 25, 3, 0, []), (66, .putfield 25, 3, 0, []), (69, .aload_n 0, 1, 0, []), (70, .aload_n 1, 1, 0, []), (71, .getfield 38, 3, 0, []), (74, .putfield 38, 3, 0, []), (77, .return_, 1, 0, [])]
theorem zd_X2_copyFrom : ∀ q ∈ zc_X2_copyFrom, decode prog_4_method_2_code q.1 = .ok (q.2.1, q.2.2.1) := by decide +kernel
def zc_X10_copyFrom : List (Nat × ClassFile.Instr × Nat × Nat × List (Nat × Int × Nat)) := [(0, .aload_n 1, 1, 0, []), (1, .getfield 11, 3, 0, []), (4, .iconst 0, 1, 0, []), (5, .aload_n 0, 1, 0, []), (6, .getfield 11, 3, 0, []), (9, .iconst 0, 1, 0, []), (10, .bipush 16, 2, 0, []), (12, .invokestatic 34, 3, 0, []), (15, .aload_n 1, 1, 0, []), (16, .getfield 17, 3, 0, []), (19, .iconst 0, 1, 0, []), (20, .aload_n 0, 1, 0, []), (21, .getfield 17, 3, 0, []), (24, .iconst 0, 1, 0, []), (25, .sipush 416, 3, 0, []), (28, .invokestatic 34, 3, 0, []), (31, .aload_n 0, 1, 0, []), (32, .aload_n 1, 1, 0, []), (33, .getfield 24, 3, 0, []), (36, .putfield 24, 3, 0, []), (39, .aload_n 0, 1, 0, []), (40, .aload_n 1, 1, 0, []), (41, .getfield 20, 3, 0, []), (44, .putfield 20, 3, 0, []), (47, .return_, 1, 0, [])]
theorem zd_X10_copyFrom : ∀ q ∈ zc_X10_copyFrom, decode prog_12_method_5_code q.1 = .ok (q.2.1, q.2.2.1) := by decide +kernel
def zc_X11_isClauseRun : List (Nat × ClassFile.Instr × Nat × Nat × List (Nat × Int × Nat)) := [(0, .aload_n 1, 1, 0, []), (1, .getfield 243, 3, 0, []), (4, .iload_n 2, 1, 0, []), (5, .iaload, 1, 0, []), (6, .istore_n 3, 1, 0, []), (7, .iconst 0, 1, 0, []), (8, .istore 4, 2, 0, []), (10, .iload 4, 2, 0, []), (12, .aload_n 1, 1, 0, []), (13, .getfield 246, 3, 0, []), (16, .iload_n 2, 1, 0, []), (17, .iaload, 1, 0, []), (18, .if_icmp .ge 208, 3, 0, []), (21, .aload_n 0, 1, 0, []), (22, .invokevirtual 249, 3, 0, []), (25, .aload_n 0, 1, 0, []), (26, .getfield 30, 3, 0, []), (29, .aload_n 1, 1, 0, []), (30, .aload_n 1, 1, 0, []), (31, .getfield 252, 3, 0, []), (34, .iload_n 2, 1, 0, []), (35, .iaload, 1, 0, []), (36, .aload_n 0, 1, 0, []), (37, .getfield 90, 3, 0, []), (40, .invokevirtual 255, 3, 0, []), (43, .lconst 1, 1, 0, []), (44, .lcmp, 1, 0, []), (45, .ifCond .eq 6, 3, 0, []), (48, .goto 172, 3, 0, []), (51, .aload_n 0, 1, 0, []), (52, .getfield 30, 3, 0, []), (55, .aload_n 1, 1, 0, []), (56, .aload_n 1, 1, 0, []), (57, .getfield 259, 3, 0, []), (60, .iload_n 2, 1, 0, []), (61, .iaload, 1, 0, []), (62, .aload_n 0, 1, 0, []), (63, .getfield 90, 3, 0, []), (66, .invokevirtual 255, 3, 0, []), (69, .lstore 5, 2, 0, []), (71, .aload_n 0, 1, 0, []), (72, .getfield 30, 3, 0, []), (75, .aload_n 1, 1, 0, []), (76, .aload_n 1, 1, 0, []), (77, .getfield 262, 3, 0, []), (80, .iload_n 2, 1, 0, []), (81, .iaload, 1, 0, []), (82, .aload_n 0, 1, 0, []), (83, .getfield 90, 3, 0, []), (86, .invokevirtual 255, 3, 0, []), (89, .lstore 7, 2, 0, []), (91, .lload 5, 2, 0, []), (93, .ldc2_w 265, 3, 0, []), (96, .lcmp, 1, 0, []), (97, .ifCond .eq 12, 3, 0, []), (100, .lload 7, 2, 0, []), (102, .ldc2_w 265, 3, 0, []), (105, .lcmp, 1, 0, []), (106, .ifCond .ne 5, 3, 0, []), (109, .iconst 0, 1, 0, []), (110, .ireturn, 1, 0, []), (111, .iconst (-1), 1, 0, []), (112, .istore 9, 2, 0, []), (114, .iload_n 3, 1, 0, []), (115, .tableswitch 77 0 3 #[29, 41, 56, 65], 29, 0, []), (144, .aload_n 0, 1, 0, []), (145, .lload 5, 2, 0, []), (147, .l2i, 1, 0, []), (148, .invokevirtual 267, 3, 0, []), (151, .istore 9, 2, 0, []), (153, .goto 39, 3, 0, []), (156, .aload_n 0, 1, 0, []), (157, .lload 5, 2, 0, []), (159, .l2i, 1, 0, []), (160, .lload 7, 2, 0, []), (162, .l2i, 1, 0, []), (163, .invokevirtual 270, 3, 0, []), (166, .istore 9, 2, 0, []), (168, .goto 24, 3, 0, []), (171, .aload_n 0, 1, 0, []), (172, .invokevirtual 273, 3, 0, []), (175, .istore 9, 2, 0, []), (177, .goto 15, 3, 0, []), (180, .aload_n 0, 1, 0, []), (181, .lload 5, 2, 0, []), (183, .l2i, 1, 0, []), (184, .invokevirtual 277, 3, 0, []), (187, .istore 9, 2, 0, []), (189, .goto 3, 3, 0, []), (192, .iload 9, 2, 0, []), (194, .ifCond .ge 5, 3, 0, []), (197, .iconst 0, 1, 0, []), (198, .ireturn, 1, 0, []), (199, .aload_n 0, 1, 0, []), (200, .dup, 1, 0, []), (201, .getfield 233, 3, 0, []), (204, .iconst 1, 1, 0, []), (205, .iadd, 1, 0, []), (206, .putfield 233, 3, 0, []), (209, .iload_n 3, 1, 0, []), (210, .iconst 2, 1, 0, []), (211, .if_icmp .ne 9, 3, 0, []), (214, .aload_n 0, 1, 0, []), (215, .iload 9, 2, 0, []), (217, .putfield 94, 3, 0, []), (220, .iinc 4 1, 3, 0, []), (223, .goto (-213), 3, 0, []), (226, .iconst 1, 1, 0, []), (227, .ireturn, 1, 0, [])]
theorem zd_X11_isClauseRun : ∀ q ∈ zc_X11_isClauseRun, decode prog_1_method_16_code q.1 = .ok (q.2.1, q.2.2.1) := by decide +kernel
def zc_X11_tellOrderWords : List (Nat × ClassFile.Instr × Nat × Nat × List (Nat × Int × Nat)) := [(0, .aload_n 0, 1, 0, []), (1, .getfield 10, 3, 0, []), (4, .getfield 135, 3, 0, []), (7, .astore_n 1, 1, 0, []), (8, .aload_n 0, 1, 0, []), (9, .getfield 90, 3, 0, []), (12, .iconst 0, 1, 0, []), (13, .aload_n 1, 1, 0, []), (14, .getfield 178, 3, 0, []), (17, .iastore, 1, 0, []), (18, .aload_n 0, 1, 0, []), (19, .getfield 90, 3, 0, []), (22, .iconst 1, 1, 0, []), (23, .aload_n 1, 1, 0, []), (24, .getfield 280, 3, 0, []), (27, .iastore, 1, 0, []), (28, .aload_n 0, 1, 0, []), (29, .getfield 90, 3, 0, []), (32, .iconst 2, 1, 0, []), (33, .aload_n 1, 1, 0, []), (34, .getfield 283, 3, 0, []), (37, .iastore, 1, 0, []), (38, .aload_n 0, 1, 0, []), (39, .getfield 90, 3, 0, []), (42, .iconst 3, 1, 0, []), (43, .aload_n 0, 1, 0, []), (44, .getfield 233, 3, 0, []), (47, .iastore, 1, 0, []), (48, .aload_n 0, 1, 0, []), (49, .getfield 90, 3, 0, []), (52, .iconst 4, 1, 0, []), (53, .aload_n 0, 1, 0, []), (54, .getfield 94, 3, 0, []), (57, .iastore, 1, 0, []), (58, .iconst 0, 1, 0, []), (59, .istore_n 2, 1, 0, []), (60, .iload_n 2, 1, 0, []), (61, .bipush 6, 2, 0, []), (63, .if_icmp .ge 38, 3, 0, []), (66, .aload_n 0, 1, 0, []), (67, .getfield 90, 3, 0, []), (70, .iconst 5, 1, 0, []), (71, .iload_n 2, 1, 0, []), (72, .iadd, 1, 0, []), (73, .aload_n 0, 1, 0, []), (74, .getfield 10, 3, 0, []), (77, .iload_n 2, 1, 0, []), (78, .invokevirtual 131, 3, 0, []), (81, .ifCond .eq 12, 3, 0, []), (84, .aload_n 1, 1, 0, []), (85, .getfield 144, 3, 0, []), (88, .iload_n 2, 1, 0, []), (89, .iaload, 1, 0, []), (90, .goto 4, 3, 0, []), (93, .iconst (-1), 1, 0, []), (94, .iastore, 1, 0, []), (95, .iinc 2 1, 3, 0, []), (98, .goto (-38), 3, 0, []), (101, .iconst 0, 1, 0, []), (102, .istore_n 2, 1, 0, []), (103, .iload_n 2, 1, 0, []), (104, .bipush 10, 2, 0, []), (106, .if_icmp .ge 49, 3, 0, []), (109, .aload_n 0, 1, 0, []), (110, .getfield 90, 3, 0, []), (113, .bipush 11, 2, 0, []), (115, .iload_n 2, 1, 0, []), (116, .iadd, 1, 0, []), (117, .aload_n 0, 1, 0, []), (118, .getfield 10, 3, 0, []), (121, .iload_n 2, 1, 0, []), (122, .invokevirtual 150, 3, 0, []), (125, .ifCond .eq 22, 3, 0, []), (128, .aload_n 0, 1, 0, []), (129, .getfield 10, 3, 0, []), (132, .getfield 163, 3, 0, []), (135, .iload_n 2, 1, 0, []), (136, .iaload, 1, 0, []), (137, .aload_n 1, 1, 0, []), (138, .getfield 175, 3, 0, []), (141, .iload_n 2, 1, 0, []), (142, .iaload, 1, 0, []), (143, .isub, 1, 0, []), (144, .goto 4, 3, 0, []), (147, .iconst (-1), 1, 0, []), (148, .iastore, 1, 0, []), (149, .iinc 2 1, 3, 0, []), (152, .goto (-49), 3, 0, []), (155, .return_, 1, 0, [])]
theorem zd_X11_tellOrderWords : ∀ q ∈ zc_X11_tellOrderWords, decode prog_1_method_17_code q.1 = .ok (q.2.1, q.2.2.1) := by decide +kernel
def zc_X6_value : List (Nat × ClassFile.Instr × Nat × Nat × List (Nat × Int × Nat)) := [(0, .iload_n 2, 1, 0, []), (1, .iconst (-1), 1, 0, []), (2, .if_icmp .ne 5, 3, 0, []), (5, .lconst 1, 1, 0, []), (6, .lreturn, 1, 0, []), (7, .iconst 0, 1, 0, []), (8, .istore 4, 2, 0, []), (10, .iload_n 2, 1, 0, []), (11, .istore 5, 2, 0, []), (13, .iload 5, 2, 0, []), (15, .ifCond .lt 455, 3, 0, []), (18, .iload 5, 2, 0, []), (20, .iconst 1, 1, 0, []), (21, .iadd, 1, 0, []), (22, .aload_n 1, 1, 0, []), (23, .getfield 86, 3, 0, []), (26, .arraylength, 1, 0, []), (27, .if_icmp .ge 443, 3, 0, []), (30, .iload 4, 2, 0, []), (32, .bipush 64, 2, 0, []), (34, .if_icmp .ge 436, 3, 0, []), (37, .aload_n 1, 1, 0, []), (38, .getfield 86, 3, 0, []), (41, .iload 5, 2, 0, []), (43, .iaload, 1, 0, []), (44, .istore 6, 2, 0, []), (46, .aload_n 1, 1, 0, []), (47, .getfield 86, 3, 0, []), (50, .iload 5, 2, 0, []), (52, .iconst 1, 1, 0, []), (53, .iadd, 1, 0, []), (54, .iaload, 1, 0, []), (55, .istore 7, 2, 0, []), (57, .iload 6, 2, 0, []), (59, .iconst 1, 1, 0, []), (60, .if_icmp .eq 9, 3, 0, []), (63, .iload 6, 2, 0, []), (65, .iconst 2, 1, 0, []), (66, .if_icmp .ne 57, 3, 0, []), (69, .iload 6, 2, 0, []), (71, .iconst 2, 1, 0, []), (72, .if_icmp .ne 19, 3, 0, []), (75, .iload 7, 2, 0, []), (77, .ifCond .lt 14, 3, 0, []), (80, .iload 7, 2, 0, []), (82, .aload_n 3, 1, 0, []), (83, .arraylength, 1, 0, []), (84, .if_icmp .ge 7, 3, 0, []), (87, .iconst 1, 1, 0, []), (88, .goto 4, 3, 0, []), (91, .iconst 0, 1, 0, []), (92, .istore 8, 2, 0, []), (94, .aload_n 0, 1, 0, []), (95, .getfield 15, 3, 0, []), (98, .iload 4, 2, 0, []), (100, .iload 8, 2, 0, []), (102, .ifCond .eq 11, 3, 0, []), (105, .aload_n 3, 1, 0, []), (106, .iload 7, 2, 0, []), (108, .iaload, 1, 0, []), (109, .i2l, 1, 0, []), (110, .goto 6, 3, 0, []), (113, .iload 7, 2, 0, []), (115, .i2l, 1, 0, []), (116, .lastore, 1, 0, []), (117, .iinc 4 1, 3, 0, []), (120, .goto 344, 3, 0, []), (123, .iload 4, 2, 0, []), (125, .iconst 1, 1, 0, []), (126, .if_icmp .ge 7, 3, 0, []), (129, .ldc2_w 53, 3, 0, []), (132, .lreturn, 1, 0, []), (133, .aload_n 0, 1, 0, []), (134, .getfield 15, 3, 0, []), (137, .iload 4, 2, 0, []), (139, .iconst 1, 1, 0, []), (140, .isub, 1, 0, []), (141, .laload, 1, 0, []), (142, .lstore 8, 2, 0, []), (144, .iload 6, 2, 0, []), (146, .ifCond .ne 6, 3, 0, []), (149, .lload 8, 2, 0, []), (151, .lreturn, 1, 0, []), (152, .iload 6, 2, 0, []), (154, .iconst 3, 1, 0, []), (155, .if_icmp .ne 19, 3, 0, []), (158, .aload_n 0, 1, 0, []), (159, .getfield 15, 3, 0, []), (162, .iload 4, 2, 0, []), (164, .iconst 1, 1, 0, []), (165, .isub, 1, 0, []), (166, .lconst 1, 1, 0, []), (167, .lload 8, 2, 0, []), (169, .lsub, 1, 0, []), (170, .lastore, 1, 0, []), (171, .goto 293, 3, 0, []), (174, .iload 6, 2, 0, []), (176, .iconst 4, 1, 0, []), (177, .if_icmp .eq 9, 3, 0, []), (180, .iload 6, 2, 0, []), (182, .iconst 5, 1, 0, []), (183, .if_icmp .ne 53, 3, 0, []), (186, .lload 8, 2, 0, []), (188, .lconst 1, 1, 0, []), (189, .lcmp, 1, 0, []), (190, .ifCond .ne 7, 3, 0, []), (193, .iconst 1, 1, 0, []), (194, .goto 4, 3, 0, []), (197, .iconst 0, 1, 0, []), (198, .iload 6, 2, 0, []), (200, .iconst 5, 1, 0, []), (201, .if_icmp .ne 7, 3, 0, []), (204, .iconst 1, 1, 0, []), (205, .goto 4, 3, 0, []), (208, .iconst 0, 1, 0, []), (209, .if_icmp .eq 9, 3, 0, []), (212, .iinc 4 (-1), 3, 0, []), (215, .goto 249, 3, 0, []), (218, .iload 7, 2, 0, []), (220, .iconst 2, 1, 0, []), (221, .isub, 1, 0, []), (222, .iload 5, 2, 0, []), (224, .if_icmp .le 240, 3, 0, []), (227, .iload 7, 2, 0, []), (229, .iconst 2, 1, 0, []), (230, .isub, 1, 0, []), (231, .istore 5, 2, 0, []), (233, .goto 231, 3, 0, []), (236, .iload 4, 2, 0, []), (238, .iconst 2, 1, 0, []), (239, .if_icmp .ge 7, 3, 0, []), (242, .ldc2_w 53, 3, 0, []), (245, .lreturn, 1, 0, []), (246, .iinc 4 (-1), 3, 0, []), (249, .aload_n 0, 1, 0, []), (250, .getfield 15, 3, 0, []), (253, .iload 4, 2, 0, []), (255, .iconst 1, 1, 0, []), (256, .isub, 1, 0, []), (257, .laload, 1, 0, []), (258, .lstore 10, 2, 0, []), (260, .iload 6, 2, 0, []), (262, .tableswitch 154 6 12 #[42, 52, 62, 72, 95, 118, 136], 42, 0, []), (304, .lload 10, 2, 0, []), (306, .lload 8, 2, 0, []), (308, .ladd, 1, 0, []), (309, .lstore 12, 2, 0, []), (311, .goto 120, 3, 0, []), (314, .lload 10, 2, 0, []), (316, .lload 8, 2, 0, []), (318, .lsub, 1, 0, []), (319, .lstore 12, 2, 0, []), (321, .goto 110, 3, 0, []), (324, .lload 10, 2, 0, []), (326, .lload 8, 2, 0, []), (328, .lmul, 1, 0, []), (329, .lstore 12, 2, 0, []), (331, .goto 100, 3, 0, []), (334, .lload 8, 2, 0, []), (336, .lconst 0, 1, 0, []), (337, .lcmp, 1, 0, []), (338, .ifCond .ne 9, 3, 0, []), (341, .ldc2_w 53, 3, 0, []), (344, .goto 8, 3, 0, []), (347, .lload 10, 2, 0, []), (349, .lload 8, 2, 0, []), (351, .ldiv, 1, 0, []), (352, .lstore 12, 2, 0, []), (354, .goto 77, 3, 0, []), (357, .lload 8, 2, 0, []), (359, .lconst 0, 1, 0, []), (360, .lcmp, 1, 0, []), (361, .ifCond .ne 9, 3, 0, []), (364, .ldc2_w 53, 3, 0, []), (367, .goto 8, 3, 0, []), (370, .lload 10, 2, 0, []), (372, .lload 8, 2, 0, []), (374, .lrem, 1, 0, []), (375, .lstore 12, 2, 0, []), (377, .goto 54, 3, 0, []), (380, .lload 10, 2, 0, []), (382, .lload 8, 2, 0, []), (384, .lcmp, 1, 0, []), (385, .ifCond .ge 7, 3, 0, []), (388, .lconst 1, 1, 0, []), (389, .goto 4, 3, 0, []), (392, .lconst 0, 1, 0, []), (393, .lstore 12, 2, 0, []), (395, .goto 36, 3, 0, []), (398, .lload 10, 2, 0, []), (400, .lload 8, 2, 0, []), (402, .lcmp, 1, 0, []), (403, .ifCond .le 7, 3, 0, []), (406, .lconst 1, 1, 0, []), (407, .goto 4, 3, 0, []), (410, .lconst 0, 1, 0, []), (411, .lstore 12, 2, 0, []), (413, .goto 18, 3, 0, []), (416, .lload 10, 2, 0, []), (418, .lload 8, 2, 0, []), (420, .lcmp, 1, 0, []), (421, .ifCond .ne 7, 3, 0, []), (424, .lconst 1, 1, 0, []), (425, .goto 4, 3, 0, []), (428, .lconst 0, 1, 0, []), (429, .lstore 12, 2, 0, []), (431, .lload 12, 2, 0, []), (433, .ldc2_w 89, 3, 0, []), (436, .lcmp, 1, 0, []), (437, .ifCond .gt 12, 3, 0, []), (440, .lload 12, 2, 0, []), (442, .ldc2_w 91, 3, 0, []), (445, .lcmp, 1, 0, []), (446, .ifCond .ge 7, 3, 0, []), (449, .ldc2_w 53, 3, 0, []), (452, .lreturn, 1, 0, []), (453, .aload_n 0, 1, 0, []), (454, .getfield 15, 3, 0, []), (457, .iload 4, 2, 0, []), (459, .iconst 1, 1, 0, []), (460, .isub, 1, 0, []), (461, .lload 12, 2, 0, []), (463, .lastore, 1, 0, []), (464, .iinc 5 2, 3, 0, []), (467, .goto (-454), 3, 0, []), (470, .ldc2_w 53, 3, 0, []), (473, .lreturn, 1, 0, [])]
theorem zd_X6_value : ∀ q ∈ zc_X6_value, decode prog_8_method_12_code q.1 = .ok (q.2.1, q.2.2.1) := by decide +kernel
def zc_X11_windBy : List (Nat × ClassFile.Instr × Nat × Nat × List (Nat × Int × Nat)) := [(0, .aload_n 0, 1, 0, []), (1, .getfield 10, 3, 0, []), (4, .getfield 135, 3, 0, []), (7, .astore_n 2, 1, 0, []), (8, .iload_n 1, 1, 0, []), (9, .invokestatic 292, 3, 0, []), (12, .ifCond .ne 5, 3, 0, []), (15, .iconst (-1), 1, 0, []), (16, .ireturn, 1, 0, []), (17, .aload_n 2, 1, 0, []), (18, .getfield 280, 3, 0, []), (21, .iconst (-1), 1, 0, []), (22, .if_icmp .ne 22, 3, 0, []), (25, .aload_n 2, 1, 0, []), (26, .getfield 308, 3, 0, []), (29, .ifCond .ne 15, 3, 0, []), (32, .iload_n 1, 1, 0, []), (33, .aload_n 0, 1, 0, []), (34, .getfield 10, 3, 0, []), (37, .aload_n 2, 1, 0, []), (38, .invokevirtual 312, 3, 0, []), (41, .if_icmp .le 6, 3, 0, []), (44, .bipush (-3), 2, 0, []), (46, .ireturn, 1, 0, []), (47, .aload_n 0, 1, 0, []), (48, .getfield 23, 3, 0, []), (51, .iconst 0, 1, 0, []), (52, .aload_n 2, 1, 0, []), (53, .invokevirtual 316, 3, 0, []), (56, .aload_n 0, 1, 0, []), (57, .getfield 30, 3, 0, []), (60, .aload_n 0, 1, 0, []), (61, .getfield 10, 3, 0, []), (64, .aload_n 2, 1, 0, []), (65, .iload_n 1, 1, 0, []), (66, .invokevirtual 295, 3, 0, []), (69, .aload_n 2, 1, 0, []), (70, .iload_n 1, 1, 0, []), (71, .aload_n 0, 1, 0, []), (72, .getfield 30, 3, 0, []), (75, .invokevirtual 299, 3, 0, []), (78, .invokevirtual 320, 3, 0, []), (81, .aload_n 2, 1, 0, []), (82, .getfield 283, 3, 0, []), (85, .ireturn, 1, 0, [])]
theorem zd_X11_windBy : ∀ q ∈ zc_X11_windBy, decode prog_1_method_23_code q.1 = .ok (q.2.1, q.2.2.1) := by decide +kernel
def zc_X11_areTurns : List (Nat × ClassFile.Instr × Nat × Nat × List (Nat × Int × Nat)) := [(0, .iload_n 0, 1, 0, []), (1, .iconst 0, 1, 0, []), (2, .bipush 12, 2, 0, []), (4, .invokestatic 107, 3, 0, []), (7, .ireturn, 1, 0, [])]
theorem zd_X11_areTurns : ∀ q ∈ zc_X11_areTurns, decode prog_1_method_54_code q.1 = .ok (q.2.1, q.2.2.1) := by decide +kernel
def zc_X9_mostTurns : List (Nat × ClassFile.Instr × Nat × Nat × List (Nat × Int × Nat)) := [(0, .aload_n 1, 1, 0, []), (1, .getfield 103, 3, 0, []), (4, .bipush 7, 2, 0, []), (6, .irem, 1, 0, []), (7, .bipush 6, 2, 0, []), (9, .if_icmp .ne 10, 3, 0, []), (12, .aload_n 0, 1, 0, []), (13, .getfield 52, 3, 0, []), (16, .goto 5, 3, 0, []), (19, .bipush 12, 2, 0, []), (21, .ireturn, 1, 0, [])]
theorem zd_X9_mostTurns : ∀ q ∈ zc_X9_mostTurns, decode prog_11_method_11_code q.1 = .ok (q.2.1, q.2.2.1) := by decide +kernel
def zc_X10_keep : List (Nat × ClassFile.Instr × Nat × Nat × List (Nat × Int × Nat)) := [(0, .aload_n 0, 1, 0, []), (1, .getfield 24, 3, 0, []), (4, .aload_n 0, 1, 0, []), (5, .getfield 20, 3, 0, []), (8, .iadd, 1, 0, []), (9, .bipush 16, 2, 0, []), (11, .irem, 1, 0, []), (12, .istore_n 3, 1, 0, []), (13, .aload_n 0, 1, 0, []), (14, .getfield 20, 3, 0, []), (17, .bipush 16, 2, 0, []), (19, .if_icmp .ge 16, 3, 0, []), (22, .aload_n 0, 1, 0, []), (23, .dup, 1, 0, []), (24, .getfield 20, 3, 0, []), (27, .iconst 1, 1, 0, []), (28, .iadd, 1, 0, []), (29, .putfield 20, 3, 0, []), (32, .goto 16, 3, 0, []), (35, .aload_n 0, 1, 0, []), (36, .aload_n 0, 1, 0, []), (37, .getfield 24, 3, 0, []), (40, .iconst 1, 1, 0, []), (41, .iadd, 1, 0, []), (42, .bipush 16, 2, 0, []), (44, .irem, 1, 0, []), (45, .putfield 24, 3, 0, []), (48, .aload_n 0, 1, 0, []), (49, .getfield 11, 3, 0, []), (52, .iload_n 3, 1, 0, []), (53, .iload_n 1, 1, 0, []), (54, .iastore, 1, 0, []), (55, .aload_n 2, 1, 0, []), (56, .aload_n 0, 1, 0, []), (57, .getfield 17, 3, 0, []), (60, .iload_n 3, 1, 0, []), (61, .bipush 26, 2, 0, []), (63, .imul, 1, 0, []), (64, .invokevirtual 27, 3, 0, []), (67, .return_, 1, 0, [])]
theorem zd_X10_keep : ∀ q ∈ zc_X10_keep, decode prog_12_method_3_code q.1 = .ok (q.2.1, q.2.2.1) := by decide +kernel
def zc_X2_keepIn : List (Nat × ClassFile.Instr × Nat × Nat × List (Nat × Int × Nat)) := [(0, .iload_n 2, 1, 0, []), (1, .ifCond .lt 12, 3, 0, []), (4, .iload_n 2, 1, 0, []), (5, .aload_n 1, 1, 0, []), (6, .arraylength, 1, 0, []), (7, .bipush 26, 2, 0, []), (9, .isub, 1, 0, []), (10, .if_icmp .le 4, 3, 0, []), (13, .return_, 1, 0, []), (14, .aload_n 0, 1, 0, []), (15, .getfield 9, 3, 0, []), (18, .iconst 0, 1, 0, []), (19, .aload_n 1, 1, 0, []), (20, .iload_n 2, 1, 0, []), (21, .bipush 6, 2, 0, []), (23, .invokestatic 28, 3, 0, []), (26, .aload_n 0, 1, 0, []), (27, .getfield 15, 3, 0, []), (30, .iconst 0, 1, 0, []), (31, .aload_n 1, 1, 0, []), (32, .iload_n 2, 1, 0, []), (33, .bipush 6, 2, 0, []), (35, .iadd, 1, 0, []), (36, .bipush 6, 2, 0, []), (38, .invokestatic 28, 3, 0, []), (41, .aload_n 0, 1, 0, []), (42, .getfield 18, 3, 0, []), (45, .iconst 0, 1, 0, []), (46, .aload_n 1, 1, 0, []), (47, .iload_n 2, 1, 0, []), (48, .bipush 12, 2, 0, []), (50, .iadd, 1, 0, []), (51, .bipush 10, 2, 0, []), (53, .invokestatic 28, 3, 0, []), (56, .iload_n 2, 1, 0, []), (57, .bipush 12, 2, 0, []), (59, .iadd, 1, 0, []), (60, .bipush 10, 2, 0, []), (62, .iadd, 1, 0, []), (63, .istore_n 3, 1, 0, []), (64, .aload_n 1, 1, 0, []), (65, .iload_n 3, 1, 0, []), (66, .aload_n 0, 1, 0, []), (67, .getfield 21, 3, 0, []), (70, .iastore, 1, 0, []), (71, .aload_n 1, 1, 0, []), (72, .iload_n 3, 1, 0, []), (73, .iconst 1, 1, 0, []), (74, .iadd, 1, 0, []), (75, .aload_n 0, 1, 0, []), (76, .getfield 34, 3, 0, []), (79, .ifCond .eq 7, 3, 0, []), (82, .iconst 1, 1, 0, []), (83, .goto 4, 3, 0, []), (86, .iconst 0, 1, 0, []), (87, .iastore, 1, 0, []), (88, .aload_n 1, 1, 0, []), (89, .iload_n 3, 1, 0, []), (90, .iconst 2, 1, 0, []), (91, .iadd, 1, 0, []), (92, .aload_n 0, 1, 0, []), (93, .getfield 25, 3, 0, []), (96, .iastore, 1, 0, []), (97, .aload_n 1, 1, 0, []), (98, .iload_n 3, 1, 0, []), (99, .iconst 3, 1, 0, []), (100, .iadd, 1, 0, []), (101, .aload_n 0, 1, 0, []), (102, .getfield 38, 3, 0, []), (105, .iastore, 1, 0, []), (106, .return_, 1, 0, [])]
theorem zd_X2_keepIn : ∀ q ∈ zc_X2_keepIn, decode prog_4_method_3_code q.1 = .ok (q.2.1, q.2.2.1) := by decide +kernel
def zc_X6_about : List (Nat × ClassFile.Instr × Nat × Nat × List (Nat × Int × Nat)) := [(0, .aload_n 0, 1, 0, []), (1, .aload_n 1, 1, 0, []), (2, .invokevirtual 19, 3, 0, []), (5, .putfield 25, 3, 0, []), (8, .aload_n 0, 1, 0, []), (9, .getfield 11, 3, 0, []), (12, .iconst 0, 1, 0, []), (13, .iload_n 3, 1, 0, []), (14, .iastore, 1, 0, []), (15, .aload_n 0, 1, 0, []), (16, .getfield 11, 3, 0, []), (19, .bipush 6, 2, 0, []), (21, .aload_n 2, 1, 0, []), (22, .getfield 29, 3, 0, []), (25, .iastore, 1, 0, []), (26, .aload_n 0, 1, 0, []), (27, .getfield 11, 3, 0, []), (30, .bipush 7, 2, 0, []), (32, .aload_n 2, 1, 0, []), (33, .getfield 35, 3, 0, []), (36, .iastore, 1, 0, []), (37, .aload_n 0, 1, 0, []), (38, .getfield 11, 3, 0, []), (41, .bipush 8, 2, 0, []), (43, .aload_n 1, 1, 0, []), (44, .getfield 38, 3, 0, []), (47, .iastore, 1, 0, []), (48, .return_, 1, 0, [])]
theorem zd_X6_about : ∀ q ∈ zc_X6_about, decode prog_8_method_2_code q.1 = .ok (q.2.1, q.2.2.1) := by decide +kernel
def zc_X9_lawInForce : List (Nat × ClassFile.Instr × Nat × Nat × List (Nat × Int × Nat)) := [(0, .aload_n 0, 1, 0, []), (1, .getfield 48, 3, 0, []), (4, .ifCond .lt 35, 3, 0, []), (7, .aload_n 0, 1, 0, []), (8, .getfield 48, 3, 0, []), (11, .aload_n 0, 1, 0, []), (12, .getfield 77, 3, 0, []), (15, .if_icmp .ge 24, 3, 0, []), (18, .aload_n 0, 1, 0, []), (19, .getfield 48, 3, 0, []), (22, .bipush 6, 2, 0, []), (24, .if_icmp .ge 15, 3, 0, []), (27, .aload_n 0, 1, 0, []), (28, .getfield 44, 3, 0, []), (31, .aload_n 0, 1, 0, []), (32, .getfield 48, 3, 0, []), (35, .aaload, 1, 0, []), (36, .goto 4, 3, 0, []), (39, .aconst_null, 1, 0, []), (40, .areturn, 1, 0, [])]
theorem zd_X9_lawInForce : ∀ q ∈ zc_X9_lawInForce, decode prog_11_method_10_code q.1 = .ok (q.2.1, q.2.2.1) := by decide +kernel
def zc_X6_wears : List (Nat × ClassFile.Instr × Nat × Nat × List (Nat × Int × Nat)) := [(0, .aload_n 0, 1, 0, []), (1, .iconst (-1), 1, 0, []), (2, .iconst (-1), 1, 0, []), (3, .invokevirtual 41, 3, 0, []), (6, .aload_n 0, 1, 0, []), (7, .iconst (-1), 1, 0, []), (8, .iconst (-1), 1, 0, []), (9, .iconst (-1), 1, 0, []), (10, .invokevirtual 45, 3, 0, []), (13, .aload_n 0, 1, 0, []), (14, .iconst 2, 1, 0, []), (15, .invokevirtual 49, 3, 0, []), (18, .lstore_n 1, 1, 0, []), (19, .lload_n 1, 1, 0, []), (20, .ldc2_w 53, 3, 0, []), (23, .lcmp, 1, 0, []), (24, .ifCond .ne 19, 3, 0, []), (27, .aload_n 0, 1, 0, []), (28, .getfield 11, 3, 0, []), (31, .iconst 0, 1, 0, []), (32, .iaload, 1, 0, []), (33, .aload_n 0, 1, 0, []), (34, .getfield 11, 3, 0, []), (37, .iconst 0, 1, 0, []), (38, .iaload, 1, 0, []), (39, .imul, 1, 0, []), (40, .goto 10, 3, 0, []), (43, .lload_n 1, 1, 0, []), (44, .sipush 999, 3, 0, []), (47, .invokestatic 55, 3, 0, []), (50, .ireturn, 1, 0, [])]
theorem zd_X6_wears : ∀ q ∈ zc_X6_wears, decode prog_8_method_8_code q.1 = .ok (q.2.1, q.2.2.1) := by decide +kernel
def zc_X6_tellHour : List (Nat × ClassFile.Instr × Nat × Nat × List (Nat × Int × Nat)) := [(0, .aload_n 0, 1, 0, []), (1, .getfield 11, 3, 0, []), (4, .iconst 2, 1, 0, []), (5, .iload_n 1, 1, 0, []), (6, .iastore, 1, 0, []), (7, .aload_n 0, 1, 0, []), (8, .getfield 11, 3, 0, []), (11, .iconst 1, 1, 0, []), (12, .iload_n 2, 1, 0, []), (13, .iastore, 1, 0, []), (14, .return_, 1, 0, [])]
theorem zd_X6_tellHour : ∀ q ∈ zc_X6_tellHour, decode prog_8_method_3_code q.1 = .ok (q.2.1, q.2.2.1) := by decide +kernel
def zc_X6_tellPerson : List (Nat × ClassFile.Instr × Nat × Nat × List (Nat × Int × Nat)) := [(0, .aload_n 0, 1, 0, []), (1, .getfield 11, 3, 0, []), (4, .iconst 3, 1, 0, []), (5, .iload_n 1, 1, 0, []), (6, .iastore, 1, 0, []), (7, .aload_n 0, 1, 0, []), (8, .getfield 11, 3, 0, []), (11, .iconst 4, 1, 0, []), (12, .iload_n 2, 1, 0, []), (13, .iastore, 1, 0, []), (14, .aload_n 0, 1, 0, []), (15, .getfield 11, 3, 0, []), (18, .iconst 5, 1, 0, []), (19, .iload_n 3, 1, 0, []), (20, .iastore, 1, 0, []), (21, .return_, 1, 0, [])]
theorem zd_X6_tellPerson : ∀ q ∈ zc_X6_tellPerson, decode prog_8_method_4_code q.1 = .ok (q.2.1, q.2.2.1) := by decide +kernel
def zc_X6_told : List (Nat × ClassFile.Instr × Nat × Nat × List (Nat × Int × Nat)) := [(0, .aload_n 0, 1, 0, []), (1, .getfield 25, 3, 0, []), (4, .ifnonnull 7, 3, 0, []), (7, .ldc2_w 53, 3, 0, []), (10, .lreturn, 1, 0, []), (11, .aload_n 0, 1, 0, []), (12, .getfield 25, 3, 0, []), (15, .getfield 68, 3, 0, []), (18, .iconst 1, 1, 0, []), (19, .isub, 1, 0, []), (20, .istore_n 2, 1, 0, []), (21, .iload_n 2, 1, 0, []), (22, .ifCond .lt 83, 3, 0, []), (25, .aload_n 0, 1, 0, []), (26, .getfield 25, 3, 0, []), (29, .getfield 73, 3, 0, []), (32, .iload_n 2, 1, 0, []), (33, .iaload, 1, 0, []), (34, .iload_n 1, 1, 0, []), (35, .if_icmp .ne 64, 3, 0, []), (38, .aload_n 0, 1, 0, []), (39, .aload_n 0, 1, 0, []), (40, .getfield 25, 3, 0, []), (43, .aload_n 0, 1, 0, []), (44, .getfield 25, 3, 0, []), (47, .getfield 76, 3, 0, []), (50, .iload_n 2, 1, 0, []), (51, .iaload, 1, 0, []), (52, .aload_n 0, 1, 0, []), (53, .getfield 11, 3, 0, []), (56, .invokevirtual 79, 3, 0, []), (59, .lconst 1, 1, 0, []), (60, .lcmp, 1, 0, []), (61, .ifCond .eq 6, 3, 0, []), (64, .goto 35, 3, 0, []), (67, .aload_n 0, 1, 0, []), (68, .aload_n 0, 1, 0, []), (69, .getfield 25, 3, 0, []), (72, .aload_n 0, 1, 0, []), (73, .getfield 25, 3, 0, []), (76, .getfield 83, 3, 0, []), (79, .iload_n 2, 1, 0, []), (80, .iaload, 1, 0, []), (81, .aload_n 0, 1, 0, []), (82, .getfield 11, 3, 0, []), (85, .invokevirtual 79, 3, 0, []), (88, .lstore_n 3, 1, 0, []), (89, .lload_n 3, 1, 0, []), (90, .ldc2_w 53, 3, 0, []), (93, .lcmp, 1, 0, []), (94, .ifCond .eq 5, 3, 0, []), (97, .lload_n 3, 1, 0, []), (98, .lreturn, 1, 0, []), (99, .iinc 2 (-1), 3, 0, []), (102, .goto (-81), 3, 0, []), (105, .ldc2_w 53, 3, 0, []), (108, .lreturn, 1, 0, [])]
theorem zd_X6_told : ∀ q ∈ zc_X6_told, decode prog_8_method_11_code q.1 = .ok (q.2.1, q.2.2.1) := by decide +kernel
def zc_X6_nearest : List (Nat × ClassFile.Instr × Nat × Nat × List (Nat × Int × Nat)) := [(0, .lconst 0, 1, 0, []), (1, .iload_n 2, 1, 0, []), (2, .i2l, 1, 0, []), (3, .lload_n 0, 1, 0, []), (4, .invokestatic 59, 3, 0, []), (7, .invokestatic 65, 3, 0, []), (10, .l2i, 1, 0, []), (11, .ireturn, 1, 0, [])]
theorem zd_X6_nearest : ∀ q ∈ zc_X6_nearest, decode prog_8_method_10_code q.1 = .ok (q.2.1, q.2.2.1) := by decide +kernel
def zc_J9_min_f86c9 : List (Nat × ClassFile.Instr × Nat × Nat × List (Nat × Int × Nat)) := [(0, .lload_n 0, 1, 0, []), (1, .lload_n 2, 1, 0, []), (2, .lcmp, 1, 0, []), (3, .ifCond .gt 7, 3, 0, []), (6, .lload_n 0, 1, 0, []), (7, .goto 4, 3, 0, []), (10, .lload_n 2, 1, 0, []), (11, .lreturn, 1, 0, [])]
theorem zd_J9_min_f86c9 : ∀ q ∈ zc_J9_min_f86c9, decode prog_16_method_70_code q.1 = .ok (q.2.1, q.2.2.1) := by decide +kernel
def zc_J9_max_f86c9 : List (Nat × ClassFile.Instr × Nat × Nat × List (Nat × Int × Nat)) := [(0, .lload_n 0, 1, 0, []), (1, .lload_n 2, 1, 0, []), (2, .lcmp, 1, 0, []), (3, .ifCond .lt 7, 3, 0, []), (6, .lload_n 0, 1, 0, []), (7, .goto 4, 3, 0, []), (10, .lload_n 2, 1, 0, []), (11, .lreturn, 1, 0, [])]
theorem zd_J9_max_f86c9 : ∀ q ∈ zc_J9_max_f86c9, decode prog_16_method_66_code q.1 = .ok (q.2.1, q.2.2.1) := by decide +kernel
def zc_X2_windBy : List (Nat × ClassFile.Instr × Nat × Nat × List (Nat × Int × Nat)) := [(0, .aload_n 0, 1, 0, []), (1, .iload_n 2, 1, 0, []), (2, .invokevirtual 47, 3, 0, []), (5, .aload_n 0, 1, 0, []), (6, .aload_n 0, 1, 0, []), (7, .getfield 21, 3, 0, []), (10, .ifCond .ne 7, 3, 0, []), (13, .iconst 1, 1, 0, []), (14, .goto 4, 3, 0, []), (17, .iconst 0, 1, 0, []), (18, .putfield 34, 3, 0, []), (21, .aload_n 0, 1, 0, []), (22, .aload_n 0, 1, 0, []), (23, .getfield 34, 3, 0, []), (26, .ifCond .eq 7, 3, 0, []), (29, .iconst (-1), 1, 0, []), (30, .goto 4, 3, 0, []), (33, .iload_n 1, 1, 0, []), (34, .putfield 25, 3, 0, []), (37, .return_, 1, 0, [])]
theorem zd_X2_windBy : ∀ q ∈ zc_X2_windBy, decode prog_4_method_6_code q.1 = .ok (q.2.1, q.2.2.1) := by decide +kernel
def zc_X2_wear : List (Nat × ClassFile.Instr × Nat × Nat × List (Nat × Int × Nat)) := [(0, .aload_n 0, 1, 0, []), (1, .iconst 0, 1, 0, []), (2, .aload_n 0, 1, 0, []), (3, .getfield 21, 3, 0, []), (6, .iload_n 1, 1, 0, []), (7, .isub, 1, 0, []), (8, .invokestatic 41, 3, 0, []), (11, .putfield 21, 3, 0, []), (14, .return_, 1, 0, [])]
theorem zd_X2_wear : ∀ q ∈ zc_X2_wear, decode prog_4_method_5_code q.1 = .ok (q.2.1, q.2.2.1) := by decide +kernel
def zc_X11_keyBy : List (Nat × ClassFile.Instr × Nat × Nat × List (Nat × Int × Nat)) := [(0, .aload_n 0, 1, 0, []), (1, .getfield 10, 3, 0, []), (4, .getfield 135, 3, 0, []), (7, .astore_n 3, 1, 0, []), (8, .iload_n 2, 1, 0, []), (9, .iconst 1, 1, 0, []), (10, .bipush 9, 2, 0, []), (12, .invokestatic 107, 3, 0, []), (15, .ifCond .ne 5, 3, 0, []), (18, .iconst (-1), 1, 0, []), (19, .ireturn, 1, 0, []), (20, .aload_n 0, 1, 0, []), (21, .getfield 10, 3, 0, []), (24, .iload_n 1, 1, 0, []), (25, .invokevirtual 131, 3, 0, []), (28, .ifCond .ne 6, 3, 0, []), (31, .bipush (-2), 2, 0, []), (33, .ireturn, 1, 0, []), (34, .aload_n 3, 1, 0, []), (35, .getfield 144, 3, 0, []), (38, .iload_n 1, 1, 0, []), (39, .iaload, 1, 0, []), (40, .iload_n 2, 1, 0, []), (41, .iadd, 1, 0, []), (42, .istore 4, 2, 0, []), (44, .iload 4, 2, 0, []), (46, .bipush 9, 2, 0, []), (48, .if_icmp .le 6, 3, 0, []), (51, .bipush (-3), 2, 0, []), (53, .ireturn, 1, 0, []), (54, .aload_n 0, 1, 0, []), (55, .getfield 30, 3, 0, []), (58, .aload_n 0, 1, 0, []), (59, .getfield 10, 3, 0, []), (62, .aload_n 3, 1, 0, []), (63, .iconst 0, 1, 0, []), (64, .aload_n 3, 1, 0, []), (65, .getfield 280, 3, 0, []), (68, .invokestatic 323, 3, 0, []), (71, .invokevirtual 295, 3, 0, []), (74, .aload_n 0, 1, 0, []), (75, .getfield 30, 3, 0, []), (78, .iload_n 1, 1, 0, []), (79, .aload_n 3, 1, 0, []), (80, .getfield 138, 3, 0, []), (83, .iload_n 1, 1, 0, []), (84, .iaload, 1, 0, []), (85, .iload 4, 2, 0, []), (87, .invokevirtual 328, 3, 0, []), (90, .ifCond .eq 6, 3, 0, []), (93, .bipush (-3), 2, 0, []), (95, .ireturn, 1, 0, []), (96, .aload_n 0, 1, 0, []), (97, .getfield 23, 3, 0, []), (100, .iconst 1, 1, 0, []), (101, .aload_n 3, 1, 0, []), (102, .invokevirtual 316, 3, 0, []), (105, .aload_n 3, 1, 0, []), (106, .getfield 144, 3, 0, []), (109, .iload_n 1, 1, 0, []), (110, .iload 4, 2, 0, []), (112, .iastore, 1, 0, []), (113, .iload 4, 2, 0, []), (115, .ireturn, 1, 0, [])]
theorem zd_X11_keyBy : ∀ q ∈ zc_X11_keyBy, decode prog_1_method_25_code q.1 = .ok (q.2.1, q.2.2.1) := by decide +kernel
def zc_X6_bars : List (Nat × ClassFile.Instr × Nat × Nat × List (Nat × Int × Nat)) := [(0, .aload_n 0, 1, 0, []), (1, .iconst (-1), 1, 0, []), (2, .iconst (-1), 1, 0, []), (3, .invokevirtual 41, 3, 0, []), (6, .aload_n 0, 1, 0, []), (7, .iload_n 1, 1, 0, []), (8, .iload_n 2, 1, 0, []), (9, .iload_n 3, 1, 0, []), (10, .invokevirtual 45, 3, 0, []), (13, .aload_n 0, 1, 0, []), (14, .iconst 4, 1, 0, []), (15, .invokevirtual 49, 3, 0, []), (18, .ldc2_w 53, 3, 0, []), (21, .lcmp, 1, 0, []), (22, .ifCond .eq 7, 3, 0, []), (25, .iconst 1, 1, 0, []), (26, .goto 4, 3, 0, []), (29, .iconst 0, 1, 0, []), (30, .ireturn, 1, 0, [])]
theorem zd_X6_bars : ∀ q ∈ zc_X6_bars, decode prog_8_method_7_code q.1 = .ok (q.2.1, q.2.2.1) := by decide +kernel
def zc_X11_runDay : List (Nat × ClassFile.Instr × Nat × Nat × List (Nat × Int × Nat)) := [(0, .aload_n 0, 1, 0, []), (1, .getfield 10, 3, 0, []), (4, .getfield 135, 3, 0, []), (7, .astore_n 1, 1, 0, []), (8, .aload_n 1, 1, 0, []), (9, .getfield 280, 3, 0, []), (12, .iconst (-1), 1, 0, []), (13, .if_icmp .eq 13, 3, 0, []), (16, .aload_n 1, 1, 0, []), (17, .getfield 178, 3, 0, []), (20, .sipush 999, 3, 0, []), (23, .if_icmp .lt 6, 3, 0, []), (26, .bipush (-3), 2, 0, []), (28, .ireturn, 1, 0, []), (29, .aload_n 0, 1, 0, []), (30, .getfield 23, 3, 0, []), (33, .iconst 2, 1, 0, []), (34, .aload_n 1, 1, 0, []), (35, .invokevirtual 316, 3, 0, []), (38, .aload_n 0, 1, 0, []), (39, .getfield 39, 3, 0, []), (42, .aload_n 0, 1, 0, []), (43, .getfield 10, 3, 0, []), (46, .aload_n 1, 1, 0, []), (47, .invokevirtual 331, 3, 0, []), (50, .ireturn, 1, 0, [])]
theorem zd_X11_runDay : ∀ q ∈ zc_X11_runDay, decode prog_1_method_27_code q.1 = .ok (q.2.1, q.2.2.1) := by decide +kernel
def zc_X0_runs : List (Nat × ClassFile.Instr × Nat × Nat × List (Nat × Int × Nat)) := [(0, .aload_n 0, 1, 0, []), (1, .aload_n 1, 1, 0, []), (2, .aload_n 2, 1, 0, []), (3, .aload_n 2, 1, 0, []), (4, .getfield 73, 3, 0, []), (7, .invokevirtual 66, 3, 0, []), (10, .iconst 0, 1, 0, []), (11, .istore_n 3, 1, 0, []), (12, .iload_n 3, 1, 0, []), (13, .bipush 24, 2, 0, []), (15, .if_icmp .ge 14, 3, 0, []), (18, .aload_n 0, 1, 0, []), (19, .iload_n 3, 1, 0, []), (20, .invokevirtual 69, 3, 0, []), (23, .iinc 3 1, 3, 0, []), (26, .goto (-14), 3, 0, []), (29, .aload_n 0, 1, 0, []), (30, .getfield 15, 3, 0, []), (33, .iconst 0, 1, 0, []), (34, .aload_n 2, 1, 0, []), (35, .getfield 51, 3, 0, []), (38, .iconst 0, 1, 0, []), (39, .bipush 10, 2, 0, []), (41, .invokestatic 54, 3, 0, []), (44, .aload_n 2, 1, 0, []), (45, .invokevirtual 77, 3, 0, []), (48, .iconst 0, 1, 0, []), (49, .istore_n 3, 1, 0, []), (50, .iconst 0, 1, 0, []), (51, .istore 4, 2, 0, []), (53, .iload 4, 2, 0, []), (55, .aload_n 0, 1, 0, []), (56, .getfield 25, 3, 0, []), (59, .getfield 80, 3, 0, []), (62, .if_icmp .ge 21, 3, 0, []), (65, .aload_n 0, 1, 0, []), (66, .iload 4, 2, 0, []), (68, .invokevirtual 83, 3, 0, []), (71, .ifCond .eq 6, 3, 0, []), (74, .iinc 3 1, 3, 0, []), (77, .iinc 4 1, 3, 0, []), (80, .goto (-27), 3, 0, []), (83, .iload_n 3, 1, 0, []), (84, .ireturn, 1, 0, [])]
theorem zd_X0_runs : ∀ q ∈ zc_X0_runs, decode prog_2_method_4_code q.1 = .ok (q.2.1, q.2.2.1) := by decide +kernel
def zc_X0_begin : List (Nat × ClassFile.Instr × Nat × Nat × List (Nat × Int × Nat)) := [(0, .aload_n 0, 1, 0, []), (1, .aload_n 1, 1, 0, []), (2, .putfield 25, 3, 0, []), (5, .aload_n 0, 1, 0, []), (6, .aload_n 2, 1, 0, []), (7, .putfield 35, 3, 0, []), (10, .aload_n 0, 1, 0, []), (11, .getfield 21, 3, 0, []), (14, .aload_n 0, 1, 0, []), (15, .getfield 25, 3, 0, []), (18, .aload_n 0, 1, 0, []), (19, .getfield 35, 3, 0, []), (22, .iload_n 3, 1, 0, []), (23, .invokevirtual 36, 3, 0, []), (26, .iload_n 3, 1, 0, []), (27, .bipush 100, 2, 0, []), (29, .imul, 1, 0, []), (30, .istore 4, 2, 0, []), (32, .iconst 0, 1, 0, []), (33, .istore 5, 2, 0, []), (35, .iload 5, 2, 0, []), (37, .bipush 24, 2, 0, []), (39, .if_icmp .ge 43, 3, 0, []), (42, .aload_n 0, 1, 0, []), (43, .getfield 9, 3, 0, []), (46, .iload 5, 2, 0, []), (48, .iload 4, 2, 0, []), (50, .iastore, 1, 0, []), (51, .iload 4, 2, 0, []), (53, .ifCond .le 23, 3, 0, []), (56, .iconst 0, 1, 0, []), (57, .iload 4, 2, 0, []), (59, .aload_n 0, 1, 0, []), (60, .getfield 21, 3, 0, []), (63, .iload 5, 2, 0, []), (65, .iload 4, 2, 0, []), (67, .invokevirtual 42, 3, 0, []), (70, .isub, 1, 0, []), (71, .invokestatic 46, 3, 0, []), (74, .istore 4, 2, 0, []), (76, .iinc 5 1, 3, 0, []), (79, .goto (-44), 3, 0, []), (82, .aload_n 0, 1, 0, []), (83, .getfield 35, 3, 0, []), (86, .getfield 51, 3, 0, []), (89, .iconst 0, 1, 0, []), (90, .aload_n 0, 1, 0, []), (91, .getfield 15, 3, 0, []), (94, .iconst 0, 1, 0, []), (95, .bipush 10, 2, 0, []), (97, .invokestatic 54, 3, 0, []), (100, .aload_n 0, 1, 0, []), (101, .getfield 18, 3, 0, []), (104, .iconst (-1), 1, 0, []), (105, .invokestatic 60, 3, 0, []), (108, .return_, 1, 0, [])]
theorem zd_X0_begin : ∀ q ∈ zc_X0_begin, decode prog_2_method_2_code q.1 = .ok (q.2.1, q.2.2.1) := by decide +kernel
def zc_X6_runs : List (Nat × ClassFile.Instr × Nat × Nat × List (Nat × Int × Nat)) := [(0, .aload_n 0, 1, 0, []), (1, .iload_n 1, 1, 0, []), (2, .iload_n 2, 1, 0, []), (3, .invokevirtual 41, 3, 0, []), (6, .aload_n 0, 1, 0, []), (7, .iconst (-1), 1, 0, []), (8, .iconst (-1), 1, 0, []), (9, .iconst (-1), 1, 0, []), (10, .invokevirtual 45, 3, 0, []), (13, .aload_n 0, 1, 0, []), (14, .iconst 0, 1, 0, []), (15, .invokevirtual 49, 3, 0, []), (18, .lstore_n 3, 1, 0, []), (19, .lload_n 3, 1, 0, []), (20, .ldc2_w 53, 3, 0, []), (23, .lcmp, 1, 0, []), (24, .ifCond .ne 8, 3, 0, []), (27, .bipush 60, 2, 0, []), (29, .goto 10, 3, 0, []), (32, .lload_n 3, 1, 0, []), (33, .sipush 999, 3, 0, []), (36, .invokestatic 55, 3, 0, []), (39, .ireturn, 1, 0, [])]
theorem zd_X6_runs : ∀ q ∈ zc_X6_runs, decode prog_8_method_5_code q.1 = .ok (q.2.1, q.2.2.1) := by decide +kernel
def zc_J7_fill_53178 : List (Nat × ClassFile.Instr × Nat × Nat × List (Nat × Int × Nat)) := [(0, .iconst 0, 1, 0, []), (1, .istore_n 2, 1, 0, []), (2, .aload_n 0, 1, 0, []), (3, .arraylength, 1, 0, []), (4, .istore_n 3, 1, 0, []), (5, .iload_n 2, 1, 0, []), (6, .iload_n 3, 1, 0, []), (7, .if_icmp .ge 13, 3, 0, []), (10, .aload_n 0, 1, 0, []), (11, .iload_n 2, 1, 0, []), (12, .iload_n 1, 1, 0, []), (13, .iastore, 1, 0, []), (14, .iinc 2 1, 3, 0, []), (17, .goto (-12), 3, 0, []), (20, .return_, 1, 0, [])]
theorem zd_J7_fill_53178 : ∀ q ∈ zc_J7_fill_53178, decode prog_21_method_103_code q.1 = .ok (q.2.1, q.2.2.1) := by decide +kernel
def zc_X0_passHour : List (Nat × ClassFile.Instr × Nat × Nat × List (Nat × Int × Nat)) := [(0, .iconst 0, 1, 0, []), (1, .istore_n 2, 1, 0, []), (2, .iload_n 2, 1, 0, []), (3, .aload_n 0, 1, 0, []), (4, .getfield 25, 3, 0, []), (7, .getfield 87, 3, 0, []), (10, .if_icmp .ge 117, 3, 0, []), (13, .iload_n 2, 1, 0, []), (14, .bipush 6, 2, 0, []), (16, .if_icmp .ge 111, 3, 0, []), (19, .aload_n 0, 1, 0, []), (20, .iload_n 2, 1, 0, []), (21, .iload_n 1, 1, 0, []), (22, .invokevirtual 90, 3, 0, []), (25, .istore_n 3, 1, 0, []), (26, .iload_n 3, 1, 0, []), (27, .iconst (-1), 1, 0, []), (28, .if_icmp .ne 6, 3, 0, []), (31, .goto 90, 3, 0, []), (34, .aload_n 0, 1, 0, []), (35, .getfield 21, 3, 0, []), (38, .iload_n 1, 1, 0, []), (39, .aload_n 0, 1, 0, []), (40, .getfield 9, 3, 0, []), (43, .iload_n 1, 1, 0, []), (44, .iaload, 1, 0, []), (45, .iload_n 2, 1, 0, []), (46, .aload_n 0, 1, 0, []), (47, .getfield 35, 3, 0, []), (50, .getfield 93, 3, 0, []), (53, .iload_n 2, 1, 0, []), (54, .iaload, 1, 0, []), (55, .aload_n 0, 1, 0, []), (56, .getfield 35, 3, 0, []), (59, .getfield 96, 3, 0, []), (62, .iload_n 2, 1, 0, []), (63, .iaload, 1, 0, []), (64, .invokevirtual 99, 3, 0, []), (67, .istore 4, 2, 0, []), (69, .aload_n 0, 1, 0, []), (70, .getfield 15, 3, 0, []), (73, .iload_n 3, 1, 0, []), (74, .aload_n 0, 1, 0, []), (75, .getfield 25, 3, 0, []), (78, .getfield 103, 3, 0, []), (81, .iload_n 3, 1, 0, []), (82, .iaload, 1, 0, []), (83, .aload_n 0, 1, 0, []), (84, .getfield 15, 3, 0, []), (87, .iload_n 3, 1, 0, []), (88, .iaload, 1, 0, []), (89, .iload 4, 2, 0, []), (91, .iadd, 1, 0, []), (92, .invokestatic 106, 3, 0, []), (95, .iastore, 1, 0, []), (96, .aload_n 0, 1, 0, []), (97, .getfield 15, 3, 0, []), (100, .iload_n 3, 1, 0, []), (101, .iaload, 1, 0, []), (102, .aload_n 0, 1, 0, []), (103, .getfield 25, 3, 0, []), (106, .getfield 103, 3, 0, []), (109, .iload_n 3, 1, 0, []), (110, .iaload, 1, 0, []), (111, .if_icmp .ne 10, 3, 0, []), (114, .aload_n 0, 1, 0, []), (115, .getfield 18, 3, 0, []), (118, .iload_n 3, 1, 0, []), (119, .iload_n 1, 1, 0, []), (120, .iastore, 1, 0, []), (121, .iinc 2 1, 3, 0, []), (124, .goto (-122), 3, 0, []), (127, .return_, 1, 0, [])]
theorem zd_X0_passHour : ∀ q ∈ zc_X0_passHour, decode prog_2_method_5_code q.1 = .ok (q.2.1, q.2.2.1) := by decide +kernel
def zc_X0_workOf : List (Nat × ClassFile.Instr × Nat × Nat × List (Nat × Int × Nat)) := [(0, .iconst 0, 1, 0, []), (1, .istore_n 3, 1, 0, []), (2, .iload_n 3, 1, 0, []), (3, .aload_n 0, 1, 0, []), (4, .getfield 25, 3, 0, []), (7, .getfield 80, 3, 0, []), (10, .if_icmp .ge 65, 3, 0, []), (13, .iload_n 3, 1, 0, []), (14, .bipush 10, 2, 0, []), (16, .if_icmp .ge 59, 3, 0, []), (19, .aload_n 0, 1, 0, []), (20, .getfield 25, 3, 0, []), (23, .getfield 109, 3, 0, []), (26, .iload_n 3, 1, 0, []), (27, .iaload, 1, 0, []), (28, .iload_n 1, 1, 0, []), (29, .if_icmp .ne 40, 3, 0, []), (32, .aload_n 0, 1, 0, []), (33, .getfield 15, 3, 0, []), (36, .iload_n 3, 1, 0, []), (37, .iaload, 1, 0, []), (38, .aload_n 0, 1, 0, []), (39, .getfield 25, 3, 0, []), (42, .getfield 103, 3, 0, []), (45, .iload_n 3, 1, 0, []), (46, .iaload, 1, 0, []), (47, .if_icmp .ge 22, 3, 0, []), (50, .aload_n 0, 1, 0, []), (51, .aload_n 0, 1, 0, []), (52, .getfield 25, 3, 0, []), (55, .getfield 112, 3, 0, []), (58, .iload_n 3, 1, 0, []), (59, .iaload, 1, 0, []), (60, .iload_n 2, 1, 0, []), (61, .invokevirtual 115, 3, 0, []), (64, .ifCond .eq 5, 3, 0, []), (67, .iload_n 3, 1, 0, []), (68, .ireturn, 1, 0, []), (69, .iinc 3 1, 3, 0, []), (72, .goto (-70), 3, 0, []), (75, .iconst (-1), 1, 0, []), (76, .ireturn, 1, 0, [])]
theorem zd_X0_workOf : ∀ q ∈ zc_X0_workOf, decode prog_2_method_6_code q.1 = .ok (q.2.1, q.2.2.1) := by decide +kernel
def zc_X0_isReady : List (Nat × ClassFile.Instr × Nat × Nat × List (Nat × Int × Nat)) := [(0, .aload_n 0, 1, 0, []), (1, .getfield 25, 3, 0, []), (4, .iload_n 1, 1, 0, []), (5, .invokevirtual 119, 3, 0, []), (8, .ifCond .eq 31, 3, 0, []), (11, .aload_n 0, 1, 0, []), (12, .getfield 15, 3, 0, []), (15, .iload_n 1, 1, 0, []), (16, .iaload, 1, 0, []), (17, .aload_n 0, 1, 0, []), (18, .getfield 25, 3, 0, []), (21, .getfield 103, 3, 0, []), (24, .iload_n 1, 1, 0, []), (25, .iaload, 1, 0, []), (26, .if_icmp .lt 17, 3, 0, []), (29, .aload_n 0, 1, 0, []), (30, .getfield 18, 3, 0, []), (33, .iload_n 1, 1, 0, []), (34, .iaload, 1, 0, []), (35, .iload_n 2, 1, 0, []), (36, .if_icmp .ge 7, 3, 0, []), (39, .iconst 1, 1, 0, []), (40, .goto 4, 3, 0, []), (43, .iconst 0, 1, 0, []), (44, .ireturn, 1, 0, [])]
theorem zd_X0_isReady : ∀ q ∈ zc_X0_isReady, decode prog_2_method_7_code q.1 = .ok (q.2.1, q.2.2.1) := by decide +kernel
def zc_X6_speeds : List (Nat × ClassFile.Instr × Nat × Nat × List (Nat × Int × Nat)) := [(0, .aload_n 0, 1, 0, []), (1, .iload_n 1, 1, 0, []), (2, .iload_n 2, 1, 0, []), (3, .invokevirtual 41, 3, 0, []), (6, .aload_n 0, 1, 0, []), (7, .iload_n 3, 1, 0, []), (8, .iload 4, 2, 0, []), (10, .iload 5, 2, 0, []), (12, .invokevirtual 45, 3, 0, []), (15, .aload_n 0, 1, 0, []), (16, .iconst 1, 1, 0, []), (17, .invokevirtual 49, 3, 0, []), (20, .lstore 6, 2, 0, []), (22, .lload 6, 2, 0, []), (24, .ldc2_w 53, 3, 0, []), (27, .lcmp, 1, 0, []), (28, .ifCond .ne 16, 3, 0, []), (31, .iload_n 2, 1, 0, []), (32, .bipush 10, 2, 0, []), (34, .idiv, 1, 0, []), (35, .iconst 5, 1, 0, []), (36, .iload 5, 2, 0, []), (38, .imul, 1, 0, []), (39, .iadd, 1, 0, []), (40, .i2l, 1, 0, []), (41, .goto 5, 3, 0, []), (44, .lload 6, 2, 0, []), (46, .bipush 60, 2, 0, []), (48, .invokestatic 55, 3, 0, []), (51, .ireturn, 1, 0, [])]
theorem zd_X6_speeds : ∀ q ∈ zc_X6_speeds, decode prog_8_method_6_code q.1 = .ok (q.2.1, q.2.2.1) := by decide +kernel
def zc_X2_sleep : List (Nat × ClassFile.Instr × Nat × Nat × List (Nat × Int × Nat)) := [(0, .aload_n 0, 1, 0, []), (1, .dup, 1, 0, []), (2, .getfield 38, 3, 0, []), (5, .iconst 1, 1, 0, []), (6, .iadd, 1, 0, []), (7, .putfield 38, 3, 0, []), (10, .aload_n 0, 1, 0, []), (11, .iconst (-1), 1, 0, []), (12, .putfield 25, 3, 0, []), (15, .iconst 0, 1, 0, []), (16, .istore_n 1, 1, 0, []), (17, .iload_n 1, 1, 0, []), (18, .bipush 6, 2, 0, []), (20, .if_icmp .ge 45, 3, 0, []), (23, .aload_n 0, 1, 0, []), (24, .getfield 9, 3, 0, []), (27, .iload_n 1, 1, 0, []), (28, .iconst 0, 1, 0, []), (29, .aload_n 0, 1, 0, []), (30, .getfield 9, 3, 0, []), (33, .iload_n 1, 1, 0, []), (34, .iaload, 1, 0, []), (35, .iconst 1, 1, 0, []), (36, .isub, 1, 0, []), (37, .invokestatic 41, 3, 0, []), (40, .iastore, 1, 0, []), (41, .aload_n 0, 1, 0, []), (42, .getfield 15, 3, 0, []), (45, .iload_n 1, 1, 0, []), (46, .iconst 0, 1, 0, []), (47, .aload_n 0, 1, 0, []), (48, .getfield 15, 3, 0, []), (51, .iload_n 1, 1, 0, []), (52, .iaload, 1, 0, []), (53, .iconst 1, 1, 0, []), (54, .isub, 1, 0, []), (55, .invokestatic 41, 3, 0, []), (58, .iastore, 1, 0, []), (59, .iinc 1 1, 3, 0, []), (62, .goto (-45), 3, 0, []), (65, .return_, 1, 0, [])]
theorem zd_X2_sleep : ∀ q ∈ zc_X2_sleep, decode prog_4_method_7_code q.1 = .ok (q.2.1, q.2.2.1) := by decide +kernel
def zc_X0_isEnding : List (Nat × ClassFile.Instr × Nat × Nat × List (Nat × Int × Nat)) := [(0, .iload_n 1, 1, 0, []), (1, .ifCond .lt 23, 3, 0, []), (4, .iload_n 1, 1, 0, []), (5, .bipush 10, 2, 0, []), (7, .if_icmp .ge 17, 3, 0, []), (10, .aload_n 0, 1, 0, []), (11, .getfield 18, 3, 0, []), (14, .iload_n 1, 1, 0, []), (15, .iaload, 1, 0, []), (16, .iconst (-1), 1, 0, []), (17, .if_icmp .eq 7, 3, 0, []), (20, .iconst 1, 1, 0, []), (21, .goto 4, 3, 0, []), (24, .iconst 0, 1, 0, []), (25, .ireturn, 1, 0, [])]
theorem zd_X0_isEnding : ∀ q ∈ zc_X0_isEnding, decode prog_2_method_10_code q.1 = .ok (q.2.1, q.2.2.1) := by decide +kernel
def zc_X11_mendBy : List (Nat × ClassFile.Instr × Nat × Nat × List (Nat × Int × Nat)) := [(0, .aload_n 0, 1, 0, []), (1, .getfield 10, 3, 0, []), (4, .getfield 135, 3, 0, []), (7, .astore_n 2, 1, 0, []), (8, .iload_n 1, 1, 0, []), (9, .iconst 1, 1, 0, []), (10, .sipush 9999, 3, 0, []), (13, .invokestatic 107, 3, 0, []), (16, .ifCond .ne 5, 3, 0, []), (19, .iconst (-1), 1, 0, []), (20, .ireturn, 1, 0, []), (21, .aload_n 2, 1, 0, []), (22, .getfield 280, 3, 0, []), (25, .iconst (-1), 1, 0, []), (26, .if_icmp .eq 6, 3, 0, []), (29, .bipush (-3), 2, 0, []), (31, .ireturn, 1, 0, []), (32, .aload_n 0, 1, 0, []), (33, .getfield 23, 3, 0, []), (36, .iconst 3, 1, 0, []), (37, .aload_n 2, 1, 0, []), (38, .invokevirtual 316, 3, 0, []), (41, .aload_n 2, 1, 0, []), (42, .sipush 9999, 3, 0, []), (45, .aload_n 2, 1, 0, []), (46, .getfield 283, 3, 0, []), (49, .iload_n 1, 1, 0, []), (50, .iadd, 1, 0, []), (51, .invokestatic 335, 3, 0, []), (54, .putfield 283, 3, 0, []), (57, .aload_n 2, 1, 0, []), (58, .iconst 0, 1, 0, []), (59, .putfield 308, 3, 0, []), (62, .aload_n 2, 1, 0, []), (63, .getfield 283, 3, 0, []), (66, .ireturn, 1, 0, [])]
theorem zd_X11_mendBy : ∀ q ∈ zc_X11_mendBy, decode prog_1_method_29_code q.1 = .ok (q.2.1, q.2.2.1) := by decide +kernel
def zc_X11_fault : List (Nat × ClassFile.Instr × Nat × Nat × List (Nat × Int × Nat)) := [(0, .aload_n 0, 1, 0, []), (1, .getfield 76, 3, 0, []), (4, .getfield 286, 3, 0, []), (7, .ireturn, 1, 0, [])]
theorem zd_X11_fault : ∀ q ∈ zc_X11_fault, decode prog_1_method_18_code q.1 = .ok (q.2.1, q.2.2.1) := by decide +kernel
def zc_X11_stopped : List (Nat × ClassFile.Instr × Nat × Nat × List (Nat × Int × Nat)) := [(0, .aload_n 0, 1, 0, []), (1, .getfield 98, 3, 0, []), (4, .ireturn, 1, 0, [])]
theorem zd_X11_stopped : ∀ q ∈ zc_X11_stopped, decode prog_1_method_19_code q.1 = .ok (q.2.1, q.2.2.1) := by decide +kernel
def zc_X11_force : List (Nat × ClassFile.Instr × Nat × Nat × List (Nat × Int × Nat)) := [(0, .iload_n 1, 1, 0, []), (1, .iconst (-1), 1, 0, []), (2, .if_icmp .eq 27, 3, 0, []), (5, .iload_n 1, 1, 0, []), (6, .iconst 0, 1, 0, []), (7, .aload_n 0, 1, 0, []), (8, .getfield 10, 3, 0, []), (11, .getfield 205, 3, 0, []), (14, .iconst 1, 1, 0, []), (15, .isub, 1, 0, []), (16, .invokestatic 107, 3, 0, []), (19, .ifCond .ne 10, 3, 0, []), (22, .aload_n 0, 1, 0, []), (23, .bipush (-2), 2, 0, []), (25, .invokevirtual 111, 3, 0, []), (28, .ireturn, 1, 0, []), (29, .aload_n 0, 1, 0, []), (30, .getfield 10, 3, 0, []), (33, .getfield 289, 3, 0, []), (36, .istore_n 2, 1, 0, []), (37, .aload_n 0, 1, 0, []), (38, .getfield 10, 3, 0, []), (41, .iload_n 1, 1, 0, []), (42, .putfield 289, 3, 0, []), (45, .aload_n 0, 1, 0, []), (46, .iload_n 2, 1, 0, []), (47, .invokevirtual 118, 3, 0, []), (50, .ireturn, 1, 0, [])]
theorem zd_X11_force : ∀ q ∈ zc_X11_force, decode prog_1_method_20_code q.1 = .ok (q.2.1, q.2.2.1) := by decide +kernel
def zc_X11_asks : List (Nat × ClassFile.Instr × Nat × Nat × List (Nat × Int × Nat)) := [(0, .iload_n 1, 1, 0, []), (1, .invokestatic 292, 3, 0, []), (4, .ifCond .ne 5, 3, 0, []), (7, .iconst (-1), 1, 0, []), (8, .ireturn, 1, 0, []), (9, .aload_n 0, 1, 0, []), (10, .getfield 30, 3, 0, []), (13, .aload_n 0, 1, 0, []), (14, .getfield 10, 3, 0, []), (17, .aload_n 0, 1, 0, []), (18, .getfield 10, 3, 0, []), (21, .getfield 135, 3, 0, []), (24, .iload_n 1, 1, 0, []), (25, .invokevirtual 295, 3, 0, []), (28, .iload_n 2, 1, 0, []), (29, .lookupswitch 43 #[(0, 27), (1, 35)], 27, 0, []), (56, .aload_n 0, 1, 0, []), (57, .getfield 30, 3, 0, []), (60, .invokevirtual 299, 3, 0, []), (63, .ireturn, 1, 0, []), (64, .aload_n 0, 1, 0, []), (65, .getfield 30, 3, 0, []), (68, .invokevirtual 302, 3, 0, []), (71, .ireturn, 1, 0, []), (72, .iconst (-1), 1, 0, []), (73, .ireturn, 1, 0, [])]
theorem zd_X11_asks : ∀ q ∈ zc_X11_asks, decode prog_1_method_21_code q.1 = .ok (q.2.1, q.2.2.1) := by decide +kernel
def zc_X6_snaps : List (Nat × ClassFile.Instr × Nat × Nat × List (Nat × Int × Nat)) := [(0, .aload_n 0, 1, 0, []), (1, .iconst (-1), 1, 0, []), (2, .iconst (-1), 1, 0, []), (3, .invokevirtual 41, 3, 0, []), (6, .aload_n 0, 1, 0, []), (7, .iconst (-1), 1, 0, []), (8, .iconst (-1), 1, 0, []), (9, .iconst (-1), 1, 0, []), (10, .invokevirtual 45, 3, 0, []), (13, .aload_n 0, 1, 0, []), (14, .iconst 3, 1, 0, []), (15, .invokevirtual 49, 3, 0, []), (18, .lstore_n 1, 1, 0, []), (19, .lload_n 1, 1, 0, []), (20, .ldc2_w 53, 3, 0, []), (23, .lcmp, 1, 0, []), (24, .ifCond .ne 19, 3, 0, []), (27, .bipush 10, 2, 0, []), (29, .aload_n 0, 1, 0, []), (30, .getfield 11, 3, 0, []), (33, .iconst 0, 1, 0, []), (34, .iaload, 1, 0, []), (35, .bipush 9, 2, 0, []), (37, .isub, 1, 0, []), (38, .imul, 1, 0, []), (39, .i2l, 1, 0, []), (40, .goto 4, 3, 0, []), (43, .lload_n 1, 1, 0, []), (44, .bipush 100, 2, 0, []), (46, .invokestatic 55, 3, 0, []), (49, .ireturn, 1, 0, [])]
theorem zd_X6_snaps : ∀ q ∈ zc_X6_snaps, decode prog_8_method_9_code q.1 = .ok (q.2.1, q.2.2.1) := by decide +kernel
def zc_X11_wind : List (Nat × ClassFile.Instr × Nat × Nat × List (Nat × Int × Nat)) := [(0, .aload_n 0, 1, 0, []), (1, .aload_n 0, 1, 0, []), (2, .iload_n 1, 1, 0, []), (3, .invokevirtual 267, 3, 0, []), (6, .invokevirtual 305, 3, 0, []), (9, .ireturn, 1, 0, [])]
theorem zd_X11_wind : ∀ q ∈ zc_X11_wind, decode prog_1_method_22_code q.1 = .ok (q.2.1, q.2.2.1) := by decide +kernel
def zc_X11_settled : List (Nat × ClassFile.Instr × Nat × Nat × List (Nat × Int × Nat)) := [(0, .iload_n 1, 1, 0, []), (1, .ifCond .ge 11, 3, 0, []), (4, .aload_n 0, 1, 0, []), (5, .iload_n 1, 1, 0, []), (6, .invokevirtual 111, 3, 0, []), (9, .goto 8, 3, 0, []), (12, .aload_n 0, 1, 0, []), (13, .iload_n 1, 1, 0, []), (14, .invokevirtual 118, 3, 0, []), (17, .ireturn, 1, 0, [])]
theorem zd_X11_settled : ∀ q ∈ zc_X11_settled, decode prog_1_method_53_code q.1 = .ok (q.2.1, q.2.2.1) := by decide +kernel
def zc_X11_key : List (Nat × ClassFile.Instr × Nat × Nat × List (Nat × Int × Nat)) := [(0, .aload_n 0, 1, 0, []), (1, .aload_n 0, 1, 0, []), (2, .iload_n 1, 1, 0, []), (3, .iload_n 2, 1, 0, []), (4, .invokevirtual 270, 3, 0, []), (7, .invokevirtual 305, 3, 0, []), (10, .ireturn, 1, 0, [])]
theorem zd_X11_key : ∀ q ∈ zc_X11_key, decode prog_1_method_24_code q.1 = .ok (q.2.1, q.2.2.1) := by decide +kernel
def zc_X11_run : List (Nat × ClassFile.Instr × Nat × Nat × List (Nat × Int × Nat)) := [(0, .aload_n 0, 1, 0, []), (1, .aload_n 0, 1, 0, []), (2, .invokevirtual 273, 3, 0, []), (5, .invokevirtual 305, 3, 0, []), (8, .ireturn, 1, 0, [])]
theorem zd_X11_run : ∀ q ∈ zc_X11_run, decode prog_1_method_26_code q.1 = .ok (q.2.1, q.2.2.1) := by decide +kernel
def zc_X11_mend : List (Nat × ClassFile.Instr × Nat × Nat × List (Nat × Int × Nat)) := [(0, .aload_n 0, 1, 0, []), (1, .aload_n 0, 1, 0, []), (2, .iload_n 1, 1, 0, []), (3, .invokevirtual 277, 3, 0, []), (6, .invokevirtual 305, 3, 0, []), (9, .ireturn, 1, 0, [])]
theorem zd_X11_mend : ∀ q ∈ zc_X11_mend, decode prog_1_method_28_code q.1 = .ok (q.2.1, q.2.2.1) := by decide +kernel
def zc_X11_undo : List (Nat × ClassFile.Instr × Nat × Nat × List (Nat × Int × Nat)) := [(0, .aload_n 0, 1, 0, []), (1, .getfield 23, 3, 0, []), (4, .aload_n 0, 1, 0, []), (5, .getfield 10, 3, 0, []), (8, .getfield 135, 3, 0, []), (11, .invokevirtual 338, 3, 0, []), (14, .istore_n 1, 1, 0, []), (15, .iload_n 1, 1, 0, []), (16, .iconst (-1), 1, 0, []), (17, .if_icmp .ne 12, 3, 0, []), (20, .aload_n 0, 1, 0, []), (21, .bipush (-3), 2, 0, []), (23, .invokevirtual 111, 3, 0, []), (26, .goto 8, 3, 0, []), (29, .aload_n 0, 1, 0, []), (30, .iload_n 1, 1, 0, []), (31, .invokevirtual 118, 3, 0, []), (34, .ireturn, 1, 0, [])]
theorem zd_X11_undo : ∀ q ∈ zc_X11_undo, decode prog_1_method_30_code q.1 = .ok (q.2.1, q.2.2.1) := by decide +kernel
def zc_X10_takeBack : List (Nat × ClassFile.Instr × Nat × Nat × List (Nat × Int × Nat)) := [(0, .aload_n 0, 1, 0, []), (1, .getfield 20, 3, 0, []), (4, .ifCond .ne 5, 3, 0, []), (7, .iconst (-1), 1, 0, []), (8, .ireturn, 1, 0, []), (9, .aload_n 0, 1, 0, []), (10, .dup, 1, 0, []), (11, .getfield 20, 3, 0, []), (14, .iconst 1, 1, 0, []), (15, .isub, 1, 0, []), (16, .putfield 20, 3, 0, []), (19, .aload_n 0, 1, 0, []), (20, .getfield 24, 3, 0, []), (23, .aload_n 0, 1, 0, []), (24, .getfield 20, 3, 0, []), (27, .iadd, 1, 0, []), (28, .bipush 16, 2, 0, []), (30, .irem, 1, 0, []), (31, .istore_n 2, 1, 0, []), (32, .aload_n 1, 1, 0, []), (33, .aload_n 0, 1, 0, []), (34, .getfield 17, 3, 0, []), (37, .iload_n 2, 1, 0, []), (38, .bipush 26, 2, 0, []), (40, .imul, 1, 0, []), (41, .invokevirtual 31, 3, 0, []), (44, .aload_n 0, 1, 0, []), (45, .getfield 11, 3, 0, []), (48, .iload_n 2, 1, 0, []), (49, .iaload, 1, 0, []), (50, .ireturn, 1, 0, [])]
theorem zd_X10_takeBack : ∀ q ∈ zc_X10_takeBack, decode prog_12_method_4_code q.1 = .ok (q.2.1, q.2.2.1) := by decide +kernel
def zc_X2_takeFrom : List (Nat × ClassFile.Instr × Nat × Nat × List (Nat × Int × Nat)) := [(0, .iload_n 2, 1, 0, []), (1, .ifCond .lt 12, 3, 0, []), (4, .iload_n 2, 1, 0, []), (5, .aload_n 1, 1, 0, []), (6, .arraylength, 1, 0, []), (7, .bipush 26, 2, 0, []), (9, .isub, 1, 0, []), (10, .if_icmp .le 4, 3, 0, []), (13, .return_, 1, 0, []), (14, .aload_n 1, 1, 0, []), (15, .iload_n 2, 1, 0, []), (16, .aload_n 0, 1, 0, []), (17, .getfield 9, 3, 0, []), (20, .iconst 0, 1, 0, []), (21, .bipush 6, 2, 0, []), (23, .invokestatic 28, 3, 0, []), (26, .aload_n 1, 1, 0, []), (27, .iload_n 2, 1, 0, []), (28, .bipush 6, 2, 0, []), (30, .iadd, 1, 0, []), (31, .aload_n 0, 1, 0, []), (32, .getfield 15, 3, 0, []), (35, .iconst 0, 1, 0, []), (36, .bipush 6, 2, 0, []), (38, .invokestatic 28, 3, 0, []), (41, .aload_n 1, 1, 0, []), (42, .iload_n 2, 1, 0, []), (43, .bipush 12, 2, 0, []), (45, .iadd, 1, 0, []), (46, .aload_n 0, 1, 0, []), (47, .getfield 18, 3, 0, []), (50, .iconst 0, 1, 0, []), (51, .bipush 10, 2, 0, []), (53, .invokestatic 28, 3, 0, []), (56, .iload_n 2, 1, 0, []), (57, .bipush 12, 2, 0, []), (59, .iadd, 1, 0, []), (60, .bipush 10, 2, 0, []), (62, .iadd, 1, 0, []), (63, .istore_n 3, 1, 0, []), (64, .aload_n 0, 1, 0, []), (65, .aload_n 1, 1, 0, []), (66, .iload_n 3, 1, 0, []), (67, .iaload, 1, 0, []), (68, .putfield 21, 3, 0, []), (71, .aload_n 0, 1, 0, []), (72, .aload_n 1, 1, 0, []), (73, .iload_n 3, 1, 0, []), (74, .iconst 1, 1, 0, []), (75, .iadd, 1, 0, []), (76, .iaload, 1, 0, []), (77, .iconst 1, 1, 0, []), (78, .if_icmp .ne 7, 3, 0, []), (81, .iconst 1, 1, 0, []), (82, .goto 4, 3, 0, []), (85, .iconst 0, 1, 0, []), (86, .putfield 34, 3, 0, []), (89, .aload_n 0, 1, 0, []), (90, .aload_n 1, 1, 0, []), (91, .iload_n 3, 1, 0, []), (92, .iconst 2, 1, 0, []), (93, .iadd, 1, 0, []), (94, .iaload, 1, 0, []), (95, .putfield 25, 3, 0, []), (98, .aload_n 0, 1, 0, []), (99, .aload_n 1, 1, 0, []), (100, .iload_n 3, 1, 0, []), (101, .iconst 3, 1, 0, []), (102, .iadd, 1, 0, []), (103, .iaload, 1, 0, []), (104, .putfield 38, 3, 0, []), (107, .return_, 1, 0, [])]
theorem zd_X2_takeFrom : ∀ q ∈ zc_X2_takeFrom, decode prog_4_method_4_code q.1 = .ok (q.2.1, q.2.2.1) := by decide +kernel
def zc_X11_hour : List (Nat × ClassFile.Instr × Nat × Nat × List (Nat × Int × Nat)) := [(0, .iload_n 1, 1, 0, []), (1, .invokestatic 292, 3, 0, []), (4, .ifCond .eq 13, 3, 0, []), (7, .iload_n 2, 1, 0, []), (8, .iconst 0, 1, 0, []), (9, .bipush 23, 2, 0, []), (11, .invokestatic 107, 3, 0, []), (14, .ifCond .ne 5, 3, 0, []), (17, .iconst (-1), 1, 0, []), (18, .ireturn, 1, 0, []), (19, .iload_n 3, 1, 0, []), (20, .ifCond .eq 18, 3, 0, []), (23, .aload_n 0, 1, 0, []), (24, .getfield 10, 3, 0, []), (27, .iload_n 3, 1, 0, []), (28, .iconst 1, 1, 0, []), (29, .isub, 1, 0, []), (30, .invokevirtual 131, 3, 0, []), (33, .ifCond .ne 5, 3, 0, []), (36, .iconst (-1), 1, 0, []), (37, .ireturn, 1, 0, []), (38, .aload_n 0, 1, 0, []), (39, .getfield 39, 3, 0, []), (42, .aload_n 0, 1, 0, []), (43, .getfield 10, 3, 0, []), (46, .aload_n 0, 1, 0, []), (47, .getfield 10, 3, 0, []), (50, .getfield 135, 3, 0, []), (53, .iload_n 1, 1, 0, []), (54, .invokevirtual 341, 3, 0, []), (57, .iload_n 3, 1, 0, []), (58, .ifCond .ne 15, 3, 0, []), (61, .aload_n 0, 1, 0, []), (62, .getfield 39, 3, 0, []), (65, .getfield 344, 3, 0, []), (68, .iload_n 2, 1, 0, []), (69, .iaload, 1, 0, []), (70, .goto 14, 3, 0, []), (73, .aload_n 0, 1, 0, []), (74, .getfield 39, 3, 0, []), (77, .iload_n 2, 1, 0, []), (78, .iload_n 3, 1, 0, []), (79, .iconst 1, 1, 0, []), (80, .isub, 1, 0, []), (81, .invokevirtual 347, 3, 0, []), (84, .ireturn, 1, 0, [])]
theorem zd_X11_hour : ∀ q ∈ zc_X11_hour, decode prog_1_method_31_code q.1 = .ok (q.2.1, q.2.2.1) := by decide +kernel
def zc_X0_speed : List (Nat × ClassFile.Instr × Nat × Nat × List (Nat × Int × Nat)) := [(0, .iload_n 1, 1, 0, []), (1, .iconst 0, 1, 0, []), (2, .bipush 23, 2, 0, []), (4, .invokestatic 122, 3, 0, []), (7, .ifCond .eq 14, 3, 0, []), (10, .aload_n 0, 1, 0, []), (11, .getfield 25, 3, 0, []), (14, .iload_n 2, 1, 0, []), (15, .invokevirtual 126, 3, 0, []), (18, .ifCond .ne 5, 3, 0, []), (21, .iconst 0, 1, 0, []), (22, .ireturn, 1, 0, []), (23, .aload_n 0, 1, 0, []), (24, .getfield 21, 3, 0, []), (27, .iload_n 1, 1, 0, []), (28, .aload_n 0, 1, 0, []), (29, .getfield 9, 3, 0, []), (32, .iload_n 1, 1, 0, []), (33, .iaload, 1, 0, []), (34, .iload_n 2, 1, 0, []), (35, .aload_n 0, 1, 0, []), (36, .getfield 35, 3, 0, []), (39, .getfield 93, 3, 0, []), (42, .iload_n 2, 1, 0, []), (43, .iaload, 1, 0, []), (44, .aload_n 0, 1, 0, []), (45, .getfield 35, 3, 0, []), (48, .getfield 96, 3, 0, []), (51, .iload_n 2, 1, 0, []), (52, .iaload, 1, 0, []), (53, .invokevirtual 99, 3, 0, []), (56, .ireturn, 1, 0, [])]
theorem zd_X0_speed : ∀ q ∈ zc_X0_speed, decode prog_2_method_8_code q.1 = .ok (q.2.1, q.2.2.1) := by decide +kernel
def zc_X11_ends : List (Nat × ClassFile.Instr × Nat × Nat × List (Nat × Int × Nat)) := [(0, .iload_n 1, 1, 0, []), (1, .invokestatic 292, 3, 0, []), (4, .ifCond .eq 23, 3, 0, []), (7, .aload_n 0, 1, 0, []), (8, .getfield 10, 3, 0, []), (11, .iload_n 2, 1, 0, []), (12, .invokevirtual 150, 3, 0, []), (15, .ifCond .eq 12, 3, 0, []), (18, .iload_n 3, 1, 0, []), (19, .iconst 0, 1, 0, []), (20, .iconst 1, 1, 0, []), (21, .invokestatic 107, 3, 0, []), (24, .ifCond .ne 5, 3, 0, []), (27, .iconst (-1), 1, 0, []), (28, .ireturn, 1, 0, []), (29, .aload_n 0, 1, 0, []), (30, .getfield 39, 3, 0, []), (33, .aload_n 0, 1, 0, []), (34, .getfield 10, 3, 0, []), (37, .aload_n 0, 1, 0, []), (38, .getfield 10, 3, 0, []), (41, .getfield 135, 3, 0, []), (44, .iload_n 1, 1, 0, []), (45, .invokevirtual 350, 3, 0, []), (48, .iload_n 3, 1, 0, []), (49, .ifCond .ne 15, 3, 0, []), (52, .aload_n 0, 1, 0, []), (53, .getfield 39, 3, 0, []), (56, .getfield 353, 3, 0, []), (59, .iload_n 2, 1, 0, []), (60, .iaload, 1, 0, []), (61, .goto 12, 3, 0, []), (64, .aload_n 0, 1, 0, []), (65, .getfield 39, 3, 0, []), (68, .getfield 356, 3, 0, []), (71, .iload_n 2, 1, 0, []), (72, .iaload, 1, 0, []), (73, .ireturn, 1, 0, [])]
theorem zd_X11_ends : ∀ q ∈ zc_X11_ends, decode prog_1_method_32_code q.1 = .ok (q.2.1, q.2.2.1) := by decide +kernel
def zc_X0_pass : List (Nat × ClassFile.Instr × Nat × Nat × List (Nat × Int × Nat)) := [(0, .aload_n 0, 1, 0, []), (1, .aload_n 1, 1, 0, []), (2, .aload_n 2, 1, 0, []), (3, .iload_n 3, 1, 0, []), (4, .invokevirtual 66, 3, 0, []), (7, .iconst 0, 1, 0, []), (8, .istore 4, 2, 0, []), (10, .iload 4, 2, 0, []), (12, .bipush 24, 2, 0, []), (14, .if_icmp .ge 15, 3, 0, []), (17, .aload_n 0, 1, 0, []), (18, .iload 4, 2, 0, []), (20, .invokevirtual 69, 3, 0, []), (23, .iinc 4 1, 3, 0, []), (26, .goto (-16), 3, 0, []), (29, .return_, 1, 0, [])]
theorem zd_X0_pass : ∀ q ∈ zc_X0_pass, decode prog_2_method_3_code q.1 = .ok (q.2.1, q.2.2.1) := by decide +kernel
def zc_X11_day : List (Nat × ClassFile.Instr × Nat × Nat × List (Nat × Int × Nat)) := [(0, .iload_n 1, 1, 0, []), (1, .invokestatic 292, 3, 0, []), (4, .ifCond .ne 5, 3, 0, []), (7, .iconst (-1), 1, 0, []), (8, .ireturn, 1, 0, []), (9, .iload_n 2, 1, 0, []), (10, .tableswitch 107 0 2 #[26, 53, 80], 26, 0, []), (36, .aload_n 0, 1, 0, []), (37, .getfield 39, 3, 0, []), (40, .aload_n 0, 1, 0, []), (41, .getfield 10, 3, 0, []), (44, .aload_n 0, 1, 0, []), (45, .getfield 10, 3, 0, []), (48, .getfield 135, 3, 0, []), (51, .iload_n 1, 1, 0, []), (52, .invokevirtual 341, 3, 0, []), (55, .aload_n 0, 1, 0, []), (56, .getfield 39, 3, 0, []), (59, .invokevirtual 357, 3, 0, []), (62, .ireturn, 1, 0, []), (63, .aload_n 0, 1, 0, []), (64, .getfield 39, 3, 0, []), (67, .aload_n 0, 1, 0, []), (68, .getfield 10, 3, 0, []), (71, .aload_n 0, 1, 0, []), (72, .getfield 10, 3, 0, []), (75, .getfield 135, 3, 0, []), (78, .iload_n 1, 1, 0, []), (79, .invokevirtual 350, 3, 0, []), (82, .aload_n 0, 1, 0, []), (83, .getfield 39, 3, 0, []), (86, .invokevirtual 360, 3, 0, []), (89, .ireturn, 1, 0, []), (90, .aload_n 0, 1, 0, []), (91, .getfield 39, 3, 0, []), (94, .aload_n 0, 1, 0, []), (95, .getfield 10, 3, 0, []), (98, .aload_n 0, 1, 0, []), (99, .getfield 10, 3, 0, []), (102, .getfield 135, 3, 0, []), (105, .iload_n 1, 1, 0, []), (106, .invokevirtual 350, 3, 0, []), (109, .aload_n 0, 1, 0, []), (110, .getfield 39, 3, 0, []), (113, .invokevirtual 363, 3, 0, []), (116, .ireturn, 1, 0, []), (117, .iconst (-1), 1, 0, []), (118, .ireturn, 1, 0, [])]
theorem zd_X11_day : ∀ q ∈ zc_X11_day, decode prog_1_method_33_code q.1 = .ok (q.2.1, q.2.2.1) := by decide +kernel
def zc_X0_standsFrom : List (Nat × ClassFile.Instr × Nat × Nat × List (Nat × Int × Nat)) := [(0, .bipush 23, 2, 0, []), (2, .istore_n 1, 1, 0, []), (3, .iload_n 1, 1, 0, []), (4, .ifCond .lt 41, 3, 0, []), (7, .iconst 0, 1, 0, []), (8, .istore_n 2, 1, 0, []), (9, .iload_n 2, 1, 0, []), (10, .aload_n 0, 1, 0, []), (11, .getfield 25, 3, 0, []), (14, .getfield 87, 3, 0, []), (17, .if_icmp .ge 22, 3, 0, []), (20, .aload_n 0, 1, 0, []), (21, .iload_n 1, 1, 0, []), (22, .iload_n 2, 1, 0, []), (23, .invokevirtual 129, 3, 0, []), (26, .ifCond .le 7, 3, 0, []), (29, .iload_n 1, 1, 0, []), (30, .iconst 1, 1, 0, []), (31, .iadd, 1, 0, []), (32, .ireturn, 1, 0, []), (33, .iinc 2 1, 3, 0, []), (36, .goto (-27), 3, 0, []), (39, .iinc 1 (-1), 3, 0, []), (42, .goto (-39), 3, 0, []), (45, .iconst 0, 1, 0, []), (46, .ireturn, 1, 0, [])]
theorem zd_X0_standsFrom : ∀ q ∈ zc_X0_standsFrom, decode prog_2_method_9_code q.1 = .ok (q.2.1, q.2.2.1) := by decide +kernel
def zc_X0_worthInTime : List (Nat × ClassFile.Instr × Nat × Nat × List (Nat × Int × Nat)) := [(0, .iconst 0, 1, 0, []), (1, .istore_n 1, 1, 0, []), (2, .iconst 0, 1, 0, []), (3, .istore_n 2, 1, 0, []), (4, .iload_n 2, 1, 0, []), (5, .aload_n 0, 1, 0, []), (6, .getfield 25, 3, 0, []), (9, .getfield 80, 3, 0, []), (12, .if_icmp .ge 35, 3, 0, []), (15, .iload_n 2, 1, 0, []), (16, .bipush 10, 2, 0, []), (18, .if_icmp .ge 29, 3, 0, []), (21, .aload_n 0, 1, 0, []), (22, .iload_n 2, 1, 0, []), (23, .invokevirtual 135, 3, 0, []), (26, .ifCond .eq 15, 3, 0, []), (29, .iload_n 1, 1, 0, []), (30, .aload_n 0, 1, 0, []), (31, .getfield 25, 3, 0, []), (34, .getfield 138, 3, 0, []), (37, .iload_n 2, 1, 0, []), (38, .iaload, 1, 0, []), (39, .iadd, 1, 0, []), (40, .istore_n 1, 1, 0, []), (41, .iinc 2 1, 3, 0, []), (44, .goto (-40), 3, 0, []), (47, .iload_n 1, 1, 0, []), (48, .ireturn, 1, 0, [])]
theorem zd_X0_worthInTime : ∀ q ∈ zc_X0_worthInTime, decode prog_2_method_13_code q.1 = .ok (q.2.1, q.2.2.1) := by decide +kernel
def zc_X0_isInTime : List (Nat × ClassFile.Instr × Nat × Nat × List (Nat × Int × Nat)) := [(0, .aload_n 0, 1, 0, []), (1, .iload_n 1, 1, 0, []), (2, .invokevirtual 83, 3, 0, []), (5, .ifCond .eq 25, 3, 0, []), (8, .aload_n 0, 1, 0, []), (9, .getfield 18, 3, 0, []), (12, .iload_n 1, 1, 0, []), (13, .iaload, 1, 0, []), (14, .aload_n 0, 1, 0, []), (15, .getfield 25, 3, 0, []), (18, .getfield 132, 3, 0, []), (21, .iload_n 1, 1, 0, []), (22, .iaload, 1, 0, []), (23, .if_icmp .gt 7, 3, 0, []), (26, .iconst 1, 1, 0, []), (27, .goto 4, 3, 0, []), (30, .iconst 0, 1, 0, []), (31, .ireturn, 1, 0, [])]
theorem zd_X0_isInTime : ∀ q ∈ zc_X0_isInTime, decode prog_2_method_11_code q.1 = .ok (q.2.1, q.2.2.1) := by decide +kernel
def zc_X0_leftInTheMiddle : List (Nat × ClassFile.Instr × Nat × Nat × List (Nat × Int × Nat)) := [(0, .iconst 0, 1, 0, []), (1, .istore_n 1, 1, 0, []), (2, .iconst 0, 1, 0, []), (3, .istore_n 2, 1, 0, []), (4, .iload_n 2, 1, 0, []), (5, .aload_n 0, 1, 0, []), (6, .getfield 25, 3, 0, []), (9, .getfield 80, 3, 0, []), (12, .if_icmp .ge 48, 3, 0, []), (15, .iload_n 2, 1, 0, []), (16, .bipush 10, 2, 0, []), (18, .if_icmp .ge 42, 3, 0, []), (21, .aload_n 0, 1, 0, []), (22, .getfield 15, 3, 0, []), (25, .iload_n 2, 1, 0, []), (26, .iaload, 1, 0, []), (27, .ifCond .le 27, 3, 0, []), (30, .aload_n 0, 1, 0, []), (31, .getfield 15, 3, 0, []), (34, .iload_n 2, 1, 0, []), (35, .iaload, 1, 0, []), (36, .aload_n 0, 1, 0, []), (37, .getfield 25, 3, 0, []), (40, .getfield 103, 3, 0, []), (43, .iload_n 2, 1, 0, []), (44, .iaload, 1, 0, []), (45, .if_icmp .ge 9, 3, 0, []), (48, .iload_n 1, 1, 0, []), (49, .iconst 1, 1, 0, []), (50, .iload_n 2, 1, 0, []), (51, .ishl, 1, 0, []), (52, .ior, 1, 0, []), (53, .istore_n 1, 1, 0, []), (54, .iinc 2 1, 3, 0, []), (57, .goto (-53), 3, 0, []), (60, .iload_n 1, 1, 0, []), (61, .ireturn, 1, 0, [])]
theorem zd_X0_leftInTheMiddle : ∀ q ∈ zc_X0_leftInTheMiddle, decode prog_2_method_14_code q.1 = .ok (q.2.1, q.2.2.1) := by decide +kernel
def zc_X11_least : List (Nat × ClassFile.Instr × Nat × Nat × List (Nat × Int × Nat)) := [(0, .iload_n 1, 1, 0, []), (1, .ifCond .lt 16, 3, 0, []), (4, .iload_n 1, 1, 0, []), (5, .iconst 1, 1, 0, []), (6, .aload_n 0, 1, 0, []), (7, .getfield 10, 3, 0, []), (10, .getfield 153, 3, 0, []), (13, .ishl, 1, 0, []), (14, .if_icmp .lt 5, 3, 0, []), (17, .iconst (-1), 1, 0, []), (18, .ireturn, 1, 0, []), (19, .iconst 0, 1, 0, []), (20, .istore_n 2, 1, 0, []), (21, .iload_n 2, 1, 0, []), (22, .bipush 12, 2, 0, []), (24, .if_icmp .gt 41, 3, 0, []), (27, .aload_n 0, 1, 0, []), (28, .getfield 39, 3, 0, []), (31, .aload_n 0, 1, 0, []), (32, .getfield 10, 3, 0, []), (35, .aload_n 0, 1, 0, []), (36, .getfield 10, 3, 0, []), (39, .getfield 135, 3, 0, []), (42, .iload_n 2, 1, 0, []), (43, .invokevirtual 350, 3, 0, []), (46, .aload_n 0, 1, 0, []), (47, .getfield 39, 3, 0, []), (50, .iload_n 1, 1, 0, []), (51, .invokevirtual 366, 3, 0, []), (54, .ifCond .eq 5, 3, 0, []), (57, .iload_n 2, 1, 0, []), (58, .ireturn, 1, 0, []), (59, .iinc 2 1, 3, 0, []), (62, .goto (-41), 3, 0, []), (65, .iconst (-1), 1, 0, []), (66, .ireturn, 1, 0, [])]
theorem zd_X11_least : ∀ q ∈ zc_X11_least, decode prog_1_method_34_code q.1 = .ok (q.2.1, q.2.2.1) := by decide +kernel
def zc_X0_areInTime : List (Nat × ClassFile.Instr × Nat × Nat × List (Nat × Int × Nat)) := [(0, .iconst 0, 1, 0, []), (1, .istore_n 2, 1, 0, []), (2, .iload_n 2, 1, 0, []), (3, .aload_n 0, 1, 0, []), (4, .getfield 25, 3, 0, []), (7, .getfield 80, 3, 0, []), (10, .if_icmp .ge 28, 3, 0, []), (13, .iload_n 1, 1, 0, []), (14, .iload_n 2, 1, 0, []), (15, .ishr, 1, 0, []), (16, .iconst 1, 1, 0, []), (17, .iand, 1, 0, []), (18, .iconst 1, 1, 0, []), (19, .if_icmp .ne 13, 3, 0, []), (22, .aload_n 0, 1, 0, []), (23, .iload_n 2, 1, 0, []), (24, .invokevirtual 135, 3, 0, []), (27, .ifCond .ne 5, 3, 0, []), (30, .iconst 0, 1, 0, []), (31, .ireturn, 1, 0, []), (32, .iinc 2 1, 3, 0, []), (35, .goto (-33), 3, 0, []), (38, .iconst 1, 1, 0, []), (39, .ireturn, 1, 0, [])]
theorem zd_X0_areInTime : ∀ q ∈ zc_X0_areInTime, decode prog_2_method_12_code q.1 = .ok (q.2.1, q.2.2.1) := by decide +kernel
def zc_X11_orderly : List (Nat × ClassFile.Instr × Nat × Nat × List (Nat × Int × Nat)) := [(0, .aload_n 0, 1, 0, []), (1, .getfield 10, 3, 0, []), (4, .iload_n 1, 1, 0, []), (5, .invokevirtual 131, 3, 0, []), (8, .ifCond .eq 10, 3, 0, []), (11, .iload_n 2, 1, 0, []), (12, .invokestatic 292, 3, 0, []), (15, .ifCond .ne 5, 3, 0, []), (18, .iconst (-1), 1, 0, []), (19, .ireturn, 1, 0, []), (20, .aload_n 0, 1, 0, []), (21, .getfield 39, 3, 0, []), (24, .aload_n 0, 1, 0, []), (25, .getfield 10, 3, 0, []), (28, .aload_n 0, 1, 0, []), (29, .getfield 10, 3, 0, []), (32, .getfield 135, 3, 0, []), (35, .iload_n 2, 1, 0, []), (36, .invokevirtual 350, 3, 0, []), (39, .aload_n 0, 1, 0, []), (40, .getfield 46, 3, 0, []), (43, .aload_n 0, 1, 0, []), (44, .getfield 10, 3, 0, []), (47, .aload_n 0, 1, 0, []), (48, .getfield 39, 3, 0, []), (51, .iload_n 1, 1, 0, []), (52, .invokevirtual 369, 3, 0, []), (55, .ifCond .ne 5, 3, 0, []), (58, .iconst (-1), 1, 0, []), (59, .ireturn, 1, 0, []), (60, .iload_n 3, 1, 0, []), (61, .iconst (-1), 1, 0, []), (62, .if_icmp .ne 11, 3, 0, []), (65, .aload_n 0, 1, 0, []), (66, .getfield 46, 3, 0, []), (69, .getfield 373, 3, 0, []), (72, .ireturn, 1, 0, []), (73, .iload_n 3, 1, 0, []), (74, .iconst 0, 1, 0, []), (75, .aload_n 0, 1, 0, []), (76, .getfield 46, 3, 0, []), (79, .getfield 375, 3, 0, []), (82, .iconst 1, 1, 0, []), (83, .isub, 1, 0, []), (84, .invokestatic 107, 3, 0, []), (87, .ifCond .eq 15, 3, 0, []), (90, .aload_n 0, 1, 0, []), (91, .getfield 46, 3, 0, []), (94, .getfield 378, 3, 0, []), (97, .iload_n 3, 1, 0, []), (98, .iaload, 1, 0, []), (99, .goto 4, 3, 0, []), (102, .iconst (-1), 1, 0, []), (103, .ireturn, 1, 0, [])]
theorem zd_X11_orderly : ∀ q ∈ zc_X11_orderly, decode prog_1_method_35_code q.1 = .ok (q.2.1, q.2.2.1) := by decide +kernel
def zc_X3_isFound : List (Nat × ClassFile.Instr × Nat × Nat × List (Nat × Int × Nat)) := [(0, .aload_n 0, 1, 0, []), (1, .iconst 0, 1, 0, []), (2, .putfield 27, 3, 0, []), (5, .aload_n 1, 1, 0, []), (6, .iload_n 3, 1, 0, []), (7, .invokevirtual 31, 3, 0, []), (10, .bipush 6, 2, 0, []), (12, .if_icmp .le 5, 3, 0, []), (15, .iconst 0, 1, 0, []), (16, .ireturn, 1, 0, []), (17, .iconst 0, 1, 0, []), (18, .istore 4, 2, 0, []), (20, .iload 4, 2, 0, []), (22, .aload_n 1, 1, 0, []), (23, .getfield 37, 3, 0, []), (26, .if_icmp .ge 66, 3, 0, []), (29, .iload 4, 2, 0, []), (31, .bipush 10, 2, 0, []), (33, .if_icmp .ge 59, 3, 0, []), (36, .aload_n 1, 1, 0, []), (37, .getfield 40, 3, 0, []), (40, .iload 4, 2, 0, []), (42, .iaload, 1, 0, []), (43, .iload_n 3, 1, 0, []), (44, .if_icmp .ne 42, 3, 0, []), (47, .aload_n 1, 1, 0, []), (48, .iload 4, 2, 0, []), (50, .invokevirtual 43, 3, 0, []), (53, .ifCond .ne 33, 3, 0, []), (56, .aload_n 0, 1, 0, []), (57, .getfield 27, 3, 0, []), (60, .bipush 6, 2, 0, []), (62, .if_icmp .ge 24, 3, 0, []), (65, .aload_n 0, 1, 0, []), (66, .getfield 11, 3, 0, []), (69, .aload_n 0, 1, 0, []), (70, .getfield 27, 3, 0, []), (73, .iload 4, 2, 0, []), (75, .iastore, 1, 0, []), (76, .aload_n 0, 1, 0, []), (77, .dup, 1, 0, []), (78, .getfield 27, 3, 0, []), (81, .iconst 1, 1, 0, []), (82, .iadd, 1, 0, []), (83, .putfield 27, 3, 0, []), (86, .iinc 4 1, 3, 0, []), (89, .goto (-69), 3, 0, []), (92, .iconst 0, 1, 0, []), (93, .istore 4, 2, 0, []), (95, .iload 4, 2, 0, []), (97, .bipush 24, 2, 0, []), (99, .if_icmp .ge 23, 3, 0, []), (102, .aload_n 0, 1, 0, []), (103, .getfield 15, 3, 0, []), (106, .iload 4, 2, 0, []), (108, .aload_n 2, 1, 0, []), (109, .iload 4, 2, 0, []), (111, .iload_n 3, 1, 0, []), (112, .invokevirtual 47, 3, 0, []), (115, .iastore, 1, 0, []), (116, .iinc 4 1, 3, 0, []), (119, .goto (-24), 3, 0, []), (122, .aload_n 0, 1, 0, []), (123, .iconst (-1), 1, 0, []), (124, .putfield 53, 3, 0, []), (127, .iconst 1, 1, 0, []), (128, .istore 4, 2, 0, []), (130, .iconst 0, 1, 0, []), (131, .istore 5, 2, 0, []), (133, .iload 5, 2, 0, []), (135, .sipush 720, 3, 0, []), (138, .if_icmp .ge 69, 3, 0, []), (141, .iload 4, 2, 0, []), (143, .ifCond .eq 64, 3, 0, []), (146, .aload_n 0, 1, 0, []), (147, .aload_n 1, 1, 0, []), (148, .aload_n 2, 1, 0, []), (149, .iload_n 3, 1, 0, []), (150, .invokevirtual 56, 3, 0, []), (153, .aload_n 0, 1, 0, []), (154, .aload_n 1, 1, 0, []), (155, .invokevirtual 60, 3, 0, []), (158, .aload_n 0, 1, 0, []), (159, .aload_n 1, 1, 0, []), (160, .invokevirtual 64, 3, 0, []), (163, .istore 6, 2, 0, []), (165, .iload 6, 2, 0, []), (167, .aload_n 0, 1, 0, []), (168, .getfield 53, 3, 0, []), (171, .if_icmp .le 24, 3, 0, []), (174, .aload_n 0, 1, 0, []), (175, .iload 6, 2, 0, []), (177, .putfield 53, 3, 0, []), (180, .aload_n 0, 1, 0, []), (181, .getfield 11, 3, 0, []), (184, .iconst 0, 1, 0, []), (185, .aload_n 0, 1, 0, []), (186, .getfield 24, 3, 0, []), (189, .iconst 0, 1, 0, []), (190, .bipush 6, 2, 0, []), (192, .invokestatic 68, 3, 0, []), (195, .aload_n 0, 1, 0, []), (196, .invokevirtual 74, 3, 0, []), (199, .istore 4, 2, 0, []), (201, .iinc 5 1, 3, 0, []), (204, .goto (-71), 3, 0, []), (207, .iconst 1, 1, 0, []), (208, .ireturn, 1, 0, [])]
theorem zd_X3_isFound : ∀ q ∈ zc_X3_isFound, decode prog_5_method_2_code q.1 = .ok (q.2.1, q.2.2.1) := by decide +kernel
def zc_X3_begin : List (Nat × ClassFile.Instr × Nat × Nat × List (Nat × Int × Nat)) := [(0, .iconst 0, 1, 0, []), (1, .istore 4, 2, 0, []), (3, .iload 4, 2, 0, []), (5, .bipush 10, 2, 0, []), (7, .if_icmp .ge 82, 3, 0, []), (10, .aload_n 1, 1, 0, []), (11, .getfield 40, 3, 0, []), (14, .iload 4, 2, 0, []), (16, .iaload, 1, 0, []), (17, .iload_n 3, 1, 0, []), (18, .if_icmp .ne 7, 3, 0, []), (21, .iconst 1, 1, 0, []), (22, .goto 4, 3, 0, []), (25, .iconst 0, 1, 0, []), (26, .istore 5, 2, 0, []), (28, .aload_n 0, 1, 0, []), (29, .getfield 18, 3, 0, []), (32, .iload 4, 2, 0, []), (34, .iload 5, 2, 0, []), (36, .ifCond .eq 16, 3, 0, []), (39, .aload_n 1, 1, 0, []), (40, .getfield 78, 3, 0, []), (43, .getfield 82, 3, 0, []), (46, .iload 4, 2, 0, []), (48, .iaload, 1, 0, []), (49, .goto 10, 3, 0, []), (52, .aload_n 2, 1, 0, []), (53, .getfield 85, 3, 0, []), (56, .iload 4, 2, 0, []), (58, .iaload, 1, 0, []), (59, .iastore, 1, 0, []), (60, .aload_n 0, 1, 0, []), (61, .getfield 21, 3, 0, []), (64, .iload 4, 2, 0, []), (66, .iload 5, 2, 0, []), (68, .ifCond .eq 7, 3, 0, []), (71, .iconst (-1), 1, 0, []), (72, .goto 10, 3, 0, []), (75, .aload_n 2, 1, 0, []), (76, .getfield 86, 3, 0, []), (79, .iload 4, 2, 0, []), (81, .iaload, 1, 0, []), (82, .iastore, 1, 0, []), (83, .iinc 4 1, 3, 0, []), (86, .goto (-83), 3, 0, []), (89, .return_, 1, 0, [])]
theorem zd_X3_begin : ∀ q ∈ zc_X3_begin, decode prog_5_method_3_code q.1 = .ok (q.2.1, q.2.2.1) := by decide +kernel
def zc_X3_pass : List (Nat × ClassFile.Instr × Nat × Nat × List (Nat × Int × Nat)) := [(0, .iconst 0, 1, 0, []), (1, .istore_n 2, 1, 0, []), (2, .iload_n 2, 1, 0, []), (3, .bipush 24, 2, 0, []), (5, .if_icmp .ge 90, 3, 0, []), (8, .aload_n 0, 1, 0, []), (9, .getfield 15, 3, 0, []), (12, .iload_n 2, 1, 0, []), (13, .iaload, 1, 0, []), (14, .ifCond .ne 7, 3, 0, []), (17, .iconst (-1), 1, 0, []), (18, .goto 9, 3, 0, []), (21, .aload_n 0, 1, 0, []), (22, .aload_n 1, 1, 0, []), (23, .iload_n 2, 1, 0, []), (24, .invokevirtual 87, 3, 0, []), (27, .istore_n 3, 1, 0, []), (28, .aload_n 1, 1, 0, []), (29, .iload_n 3, 1, 0, []), (30, .invokevirtual 91, 3, 0, []), (33, .ifCond .ne 6, 3, 0, []), (36, .goto 53, 3, 0, []), (39, .aload_n 0, 1, 0, []), (40, .getfield 18, 3, 0, []), (43, .iload_n 3, 1, 0, []), (44, .aload_n 1, 1, 0, []), (45, .getfield 94, 3, 0, []), (48, .iload_n 3, 1, 0, []), (49, .iaload, 1, 0, []), (50, .aload_n 0, 1, 0, []), (51, .getfield 18, 3, 0, []), (54, .iload_n 3, 1, 0, []), (55, .iaload, 1, 0, []), (56, .aload_n 0, 1, 0, []), (57, .getfield 15, 3, 0, []), (60, .iload_n 2, 1, 0, []), (61, .iaload, 1, 0, []), (62, .iadd, 1, 0, []), (63, .invokestatic 97, 3, 0, []), (66, .iastore, 1, 0, []), (67, .aload_n 0, 1, 0, []), (68, .getfield 18, 3, 0, []), (71, .iload_n 3, 1, 0, []), (72, .iaload, 1, 0, []), (73, .aload_n 1, 1, 0, []), (74, .getfield 94, 3, 0, []), (77, .iload_n 3, 1, 0, []), (78, .iaload, 1, 0, []), (79, .if_icmp .ne 10, 3, 0, []), (82, .aload_n 0, 1, 0, []), (83, .getfield 21, 3, 0, []), (86, .iload_n 3, 1, 0, []), (87, .iload_n 2, 1, 0, []), (88, .iastore, 1, 0, []), (89, .iinc 2 1, 3, 0, []), (92, .goto (-90), 3, 0, []), (95, .return_, 1, 0, [])]
theorem zd_X3_pass : ∀ q ∈ zc_X3_pass, decode prog_5_method_4_code q.1 = .ok (q.2.1, q.2.2.1) := by decide +kernel
def zc_X3_workOf : List (Nat × ClassFile.Instr × Nat × Nat × List (Nat × Int × Nat)) := [(0, .iconst 0, 1, 0, []), (1, .istore_n 3, 1, 0, []), (2, .iload_n 3, 1, 0, []), (3, .aload_n 0, 1, 0, []), (4, .getfield 27, 3, 0, []), (7, .if_icmp .ge 62, 3, 0, []), (10, .aload_n 0, 1, 0, []), (11, .getfield 11, 3, 0, []), (14, .iload_n 3, 1, 0, []), (15, .iaload, 1, 0, []), (16, .istore 4, 2, 0, []), (18, .aload_n 1, 1, 0, []), (19, .iload 4, 2, 0, []), (21, .invokevirtual 91, 3, 0, []), (24, .ifCond .eq 39, 3, 0, []), (27, .aload_n 0, 1, 0, []), (28, .getfield 18, 3, 0, []), (31, .iload 4, 2, 0, []), (33, .iaload, 1, 0, []), (34, .aload_n 1, 1, 0, []), (35, .getfield 94, 3, 0, []), (38, .iload 4, 2, 0, []), (40, .iaload, 1, 0, []), (41, .if_icmp .ge 22, 3, 0, []), (44, .aload_n 0, 1, 0, []), (45, .aload_n 1, 1, 0, []), (46, .aload_n 1, 1, 0, []), (47, .getfield 102, 3, 0, []), (50, .iload 4, 2, 0, []), (52, .iaload, 1, 0, []), (53, .iload_n 2, 1, 0, []), (54, .invokevirtual 105, 3, 0, []), (57, .ifCond .eq 6, 3, 0, []), (60, .iload 4, 2, 0, []), (62, .ireturn, 1, 0, []), (63, .iinc 3 1, 3, 0, []), (66, .goto (-64), 3, 0, []), (69, .iconst (-1), 1, 0, []), (70, .ireturn, 1, 0, [])]
theorem zd_X3_workOf : ∀ q ∈ zc_X3_workOf, decode prog_5_method_5_code q.1 = .ok (q.2.1, q.2.2.1) := by decide +kernel
def zc_X3_isReady : List (Nat × ClassFile.Instr × Nat × Nat × List (Nat × Int × Nat)) := [(0, .aload_n 1, 1, 0, []), (1, .iload_n 2, 1, 0, []), (2, .invokevirtual 91, 3, 0, []), (5, .ifCond .eq 28, 3, 0, []), (8, .aload_n 0, 1, 0, []), (9, .getfield 18, 3, 0, []), (12, .iload_n 2, 1, 0, []), (13, .iaload, 1, 0, []), (14, .aload_n 1, 1, 0, []), (15, .getfield 94, 3, 0, []), (18, .iload_n 2, 1, 0, []), (19, .iaload, 1, 0, []), (20, .if_icmp .lt 17, 3, 0, []), (23, .aload_n 0, 1, 0, []), (24, .getfield 21, 3, 0, []), (27, .iload_n 2, 1, 0, []), (28, .iaload, 1, 0, []), (29, .iload_n 3, 1, 0, []), (30, .if_icmp .ge 7, 3, 0, []), (33, .iconst 1, 1, 0, []), (34, .goto 4, 3, 0, []), (37, .iconst 0, 1, 0, []), (38, .ireturn, 1, 0, [])]
theorem zd_X3_isReady : ∀ q ∈ zc_X3_isReady, decode prog_5_method_6_code q.1 = .ok (q.2.1, q.2.2.1) := by decide +kernel
def zc_X3_worthInTime : List (Nat × ClassFile.Instr × Nat × Nat × List (Nat × Int × Nat)) := [(0, .iconst 0, 1, 0, []), (1, .istore_n 2, 1, 0, []), (2, .iconst 0, 1, 0, []), (3, .istore_n 3, 1, 0, []), (4, .iload_n 3, 1, 0, []), (5, .aload_n 0, 1, 0, []), (6, .getfield 27, 3, 0, []), (9, .if_icmp .ge 64, 3, 0, []), (12, .aload_n 0, 1, 0, []), (13, .getfield 11, 3, 0, []), (16, .iload_n 3, 1, 0, []), (17, .iaload, 1, 0, []), (18, .istore 4, 2, 0, []), (20, .aload_n 1, 1, 0, []), (21, .iload 4, 2, 0, []), (23, .invokevirtual 91, 3, 0, []), (26, .ifCond .eq 41, 3, 0, []), (29, .aload_n 0, 1, 0, []), (30, .getfield 21, 3, 0, []), (33, .iload 4, 2, 0, []), (35, .iaload, 1, 0, []), (36, .iconst (-1), 1, 0, []), (37, .if_icmp .eq 30, 3, 0, []), (40, .aload_n 0, 1, 0, []), (41, .getfield 21, 3, 0, []), (44, .iload 4, 2, 0, []), (46, .iaload, 1, 0, []), (47, .aload_n 1, 1, 0, []), (48, .getfield 109, 3, 0, []), (51, .iload 4, 2, 0, []), (53, .iaload, 1, 0, []), (54, .if_icmp .gt 13, 3, 0, []), (57, .iload_n 2, 1, 0, []), (58, .aload_n 1, 1, 0, []), (59, .getfield 112, 3, 0, []), (62, .iload 4, 2, 0, []), (64, .iaload, 1, 0, []), (65, .iadd, 1, 0, []), (66, .istore_n 2, 1, 0, []), (67, .iinc 3 1, 3, 0, []), (70, .goto (-66), 3, 0, []), (73, .iload_n 2, 1, 0, []), (74, .ireturn, 1, 0, [])]
theorem zd_X3_worthInTime : ∀ q ∈ zc_X3_worthInTime, decode prog_5_method_7_code q.1 = .ok (q.2.1, q.2.2.1) := by decide +kernel
def zc_X3_isNextRow : List (Nat × ClassFile.Instr × Nat × Nat × List (Nat × Int × Nat)) := [(0, .aload_n 0, 1, 0, []), (1, .getfield 27, 3, 0, []), (4, .iconst 2, 1, 0, []), (5, .isub, 1, 0, []), (6, .istore_n 1, 1, 0, []), (7, .iload_n 1, 1, 0, []), (8, .ifCond .lt 26, 3, 0, []), (11, .aload_n 0, 1, 0, []), (12, .getfield 11, 3, 0, []), (15, .iload_n 1, 1, 0, []), (16, .iaload, 1, 0, []), (17, .aload_n 0, 1, 0, []), (18, .getfield 11, 3, 0, []), (21, .iload_n 1, 1, 0, []), (22, .iconst 1, 1, 0, []), (23, .iadd, 1, 0, []), (24, .iaload, 1, 0, []), (25, .if_icmp .le 9, 3, 0, []), (28, .iinc 1 (-1), 3, 0, []), (31, .goto (-24), 3, 0, []), (34, .iload_n 1, 1, 0, []), (35, .ifCond .ge 5, 3, 0, []), (38, .iconst 0, 1, 0, []), (39, .ireturn, 1, 0, []), (40, .aload_n 0, 1, 0, []), (41, .getfield 27, 3, 0, []), (44, .iconst 1, 1, 0, []), (45, .isub, 1, 0, []), (46, .istore_n 2, 1, 0, []), (47, .iload_n 2, 1, 0, []), (48, .iload_n 1, 1, 0, []), (49, .if_icmp .le 24, 3, 0, []), (52, .aload_n 0, 1, 0, []), (53, .getfield 11, 3, 0, []), (56, .iload_n 2, 1, 0, []), (57, .iaload, 1, 0, []), (58, .aload_n 0, 1, 0, []), (59, .getfield 11, 3, 0, []), (62, .iload_n 1, 1, 0, []), (63, .iaload, 1, 0, []), (64, .if_icmp .ge 9, 3, 0, []), (67, .iinc 2 (-1), 3, 0, []), (70, .goto (-23), 3, 0, []), (73, .aload_n 0, 1, 0, []), (74, .iload_n 1, 1, 0, []), (75, .iload_n 2, 1, 0, []), (76, .invokevirtual 114, 3, 0, []), (79, .aload_n 0, 1, 0, []), (80, .getfield 27, 3, 0, []), (83, .iconst 1, 1, 0, []), (84, .isub, 1, 0, []), (85, .istore_n 3, 1, 0, []), (86, .iload_n 1, 1, 0, []), (87, .iconst 1, 1, 0, []), (88, .iadd, 1, 0, []), (89, .istore 4, 2, 0, []), (91, .iload 4, 2, 0, []), (93, .iload_n 3, 1, 0, []), (94, .if_icmp .ge 19, 3, 0, []), (97, .aload_n 0, 1, 0, []), (98, .iload 4, 2, 0, []), (100, .iload_n 3, 1, 0, []), (101, .invokevirtual 114, 3, 0, []), (104, .iinc 3 (-1), 3, 0, []), (107, .iinc 4 1, 3, 0, []), (110, .goto (-19), 3, 0, []), (113, .iconst 1, 1, 0, []), (114, .ireturn, 1, 0, [])]
theorem zd_X3_isNextRow : ∀ q ∈ zc_X3_isNextRow, decode prog_5_method_8_code q.1 = .ok (q.2.1, q.2.2.1) := by decide +kernel
def zc_X3_exchange : List (Nat × ClassFile.Instr × Nat × Nat × List (Nat × Int × Nat)) := [(0, .iload_n 1, 1, 0, []), (1, .iconst 0, 1, 0, []), (2, .iconst 5, 1, 0, []), (3, .invokestatic 118, 3, 0, []), (6, .ifCond .eq 38, 3, 0, []), (9, .iload_n 2, 1, 0, []), (10, .iconst 0, 1, 0, []), (11, .iconst 5, 1, 0, []), (12, .invokestatic 118, 3, 0, []), (15, .ifCond .eq 29, 3, 0, []), (18, .aload_n 0, 1, 0, []), (19, .getfield 11, 3, 0, []), (22, .iload_n 1, 1, 0, []), (23, .iaload, 1, 0, []), (24, .istore_n 3, 1, 0, []), (25, .aload_n 0, 1, 0, []), (26, .getfield 11, 3, 0, []), (29, .iload_n 1, 1, 0, []), (30, .aload_n 0, 1, 0, []), (31, .getfield 11, 3, 0, []), (34, .iload_n 2, 1, 0, []), (35, .iaload, 1, 0, []), (36, .iastore, 1, 0, []), (37, .aload_n 0, 1, 0, []), (38, .getfield 11, 3, 0, []), (41, .iload_n 2, 1, 0, []), (42, .iload_n 3, 1, 0, []), (43, .iastore, 1, 0, []), (44, .return_, 1, 0, [])]
theorem zd_X3_exchange : ∀ q ∈ zc_X3_exchange, decode prog_5_method_9_code q.1 = .ok (q.2.1, q.2.2.1) := by decide +kernel
def zc_X11_little : List (Nat × ClassFile.Instr × Nat × Nat × List (Nat × Int × Nat)) := [(0, .aload_n 0, 1, 0, []), (1, .getfield 10, 3, 0, []), (4, .iload_n 1, 1, 0, []), (5, .invokevirtual 150, 3, 0, []), (8, .ifCond .eq 21, 3, 0, []), (11, .iload_n 2, 1, 0, []), (12, .invokestatic 292, 3, 0, []), (15, .ifCond .eq 14, 3, 0, []), (18, .aload_n 0, 1, 0, []), (19, .getfield 10, 3, 0, []), (22, .iload_n 1, 1, 0, []), (23, .invokevirtual 381, 3, 0, []), (26, .ifCond .eq 5, 3, 0, []), (29, .iconst (-1), 1, 0, []), (30, .ireturn, 1, 0, []), (31, .aload_n 0, 1, 0, []), (32, .getfield 10, 3, 0, []), (35, .getfield 160, 3, 0, []), (38, .iload_n 1, 1, 0, []), (39, .iaload, 1, 0, []), (40, .istore_n 3, 1, 0, []), (41, .aload_n 0, 1, 0, []), (42, .getfield 10, 3, 0, []), (45, .iload_n 3, 1, 0, []), (46, .invokevirtual 131, 3, 0, []), (49, .ifCond .ne 5, 3, 0, []), (52, .iconst (-1), 1, 0, []), (53, .ireturn, 1, 0, []), (54, .aload_n 0, 1, 0, []), (55, .getfield 101, 3, 0, []), (58, .aload_n 0, 1, 0, []), (59, .getfield 10, 3, 0, []), (62, .getfield 135, 3, 0, []), (65, .invokevirtual 226, 3, 0, []), (68, .bipush 9, 2, 0, []), (70, .aload_n 0, 1, 0, []), (71, .getfield 101, 3, 0, []), (74, .getfield 144, 3, 0, []), (77, .iload_n 3, 1, 0, []), (78, .iaload, 1, 0, []), (79, .isub, 1, 0, []), (80, .istore 4, 2, 0, []), (82, .iconst 0, 1, 0, []), (83, .istore 5, 2, 0, []), (85, .iload 5, 2, 0, []), (87, .iload 4, 2, 0, []), (89, .if_icmp .gt 63, 3, 0, []), (92, .aload_n 0, 1, 0, []), (93, .getfield 101, 3, 0, []), (96, .getfield 144, 3, 0, []), (99, .iload_n 3, 1, 0, []), (100, .aload_n 0, 1, 0, []), (101, .getfield 10, 3, 0, []), (104, .getfield 135, 3, 0, []), (107, .getfield 144, 3, 0, []), (110, .iload_n 3, 1, 0, []), (111, .iaload, 1, 0, []), (112, .iload 5, 2, 0, []), (114, .iadd, 1, 0, []), (115, .iastore, 1, 0, []), (116, .aload_n 0, 1, 0, []), (117, .getfield 39, 3, 0, []), (120, .aload_n 0, 1, 0, []), (121, .getfield 10, 3, 0, []), (124, .aload_n 0, 1, 0, []), (125, .getfield 101, 3, 0, []), (128, .iload_n 2, 1, 0, []), (129, .invokevirtual 350, 3, 0, []), (132, .aload_n 0, 1, 0, []), (133, .getfield 39, 3, 0, []), (136, .iload_n 1, 1, 0, []), (137, .invokevirtual 384, 3, 0, []), (140, .ifCond .eq 6, 3, 0, []), (143, .iload 5, 2, 0, []), (145, .ireturn, 1, 0, []), (146, .iinc 5 1, 3, 0, []), (149, .goto (-64), 3, 0, []), (152, .iconst (-1), 1, 0, []), (153, .ireturn, 1, 0, [])]
theorem zd_X11_little : ∀ q ∈ zc_X11_little, decode prog_1_method_36_code q.1 = .ok (q.2.1, q.2.2.1) := by decide +kernel
def zc_X11_lasts : List (Nat × ClassFile.Instr × Nat × Nat × List (Nat × Int × Nat)) := [(0, .iload_n 1, 1, 0, []), (1, .invokestatic 292, 3, 0, []), (4, .ifCond .ne 5, 3, 0, []), (7, .iconst (-1), 1, 0, []), (8, .ireturn, 1, 0, []), (9, .aload_n 0, 1, 0, []), (10, .getfield 10, 3, 0, []), (13, .getfield 135, 3, 0, []), (16, .getfield 308, 3, 0, []), (19, .ifCond .eq 5, 3, 0, []), (22, .iconst 0, 1, 0, []), (23, .ireturn, 1, 0, []), (24, .aload_n 0, 1, 0, []), (25, .getfield 101, 3, 0, []), (28, .aload_n 0, 1, 0, []), (29, .getfield 10, 3, 0, []), (32, .getfield 135, 3, 0, []), (35, .invokevirtual 226, 3, 0, []), (38, .iconst 0, 1, 0, []), (39, .istore_n 2, 1, 0, []), (40, .iload_n 2, 1, 0, []), (41, .sipush 999, 3, 0, []), (44, .if_icmp .ge 64, 3, 0, []), (47, .aload_n 0, 1, 0, []), (48, .getfield 30, 3, 0, []), (51, .aload_n 0, 1, 0, []), (52, .getfield 10, 3, 0, []), (55, .aload_n 0, 1, 0, []), (56, .getfield 101, 3, 0, []), (59, .iload_n 1, 1, 0, []), (60, .invokevirtual 295, 3, 0, []), (63, .aload_n 0, 1, 0, []), (64, .getfield 101, 3, 0, []), (67, .aload_n 0, 1, 0, []), (68, .getfield 30, 3, 0, []), (71, .invokevirtual 299, 3, 0, []), (74, .invokevirtual 387, 3, 0, []), (77, .aload_n 0, 1, 0, []), (78, .getfield 101, 3, 0, []), (81, .getfield 283, 3, 0, []), (84, .ifCond .ne 5, 3, 0, []), (87, .iload_n 2, 1, 0, []), (88, .ireturn, 1, 0, []), (89, .aload_n 0, 1, 0, []), (90, .getfield 101, 3, 0, []), (93, .dup, 1, 0, []), (94, .getfield 178, 3, 0, []), (97, .iconst 1, 1, 0, []), (98, .iadd, 1, 0, []), (99, .putfield 178, 3, 0, []), (102, .iinc 2 1, 3, 0, []), (105, .goto (-65), 3, 0, []), (108, .iconst (-1), 1, 0, []), (109, .ireturn, 1, 0, [])]
theorem zd_X11_lasts : ∀ q ∈ zc_X11_lasts, decode prog_1_method_37_code q.1 = .ok (q.2.1, q.2.2.1) := by decide +kernel
def zc_X11_odds : List (Nat × ClassFile.Instr × Nat × Nat × List (Nat × Int × Nat)) := [(0, .iload_n 1, 1, 0, []), (1, .invokestatic 292, 3, 0, []), (4, .ifCond .eq 13, 3, 0, []), (7, .iload_n 2, 1, 0, []), (8, .iconst 0, 1, 0, []), (9, .bipush 60, 2, 0, []), (11, .invokestatic 107, 3, 0, []), (14, .ifCond .ne 7, 3, 0, []), (17, .ldc2_w 390, 3, 0, []), (20, .lreturn, 1, 0, []), (21, .ldc2_w 392, 3, 0, []), (24, .lstore_n 3, 1, 0, []), (25, .aload_n 0, 1, 0, []), (26, .getfield 101, 3, 0, []), (29, .aload_n 0, 1, 0, []), (30, .getfield 10, 3, 0, []), (33, .getfield 135, 3, 0, []), (36, .invokevirtual 226, 3, 0, []), (39, .iconst 0, 1, 0, []), (40, .istore 5, 2, 0, []), (42, .iload 5, 2, 0, []), (44, .iload_n 2, 1, 0, []), (45, .if_icmp .ge 69, 3, 0, []), (48, .aload_n 0, 1, 0, []), (49, .getfield 30, 3, 0, []), (52, .aload_n 0, 1, 0, []), (53, .getfield 10, 3, 0, []), (56, .aload_n 0, 1, 0, []), (57, .getfield 101, 3, 0, []), (60, .iload_n 1, 1, 0, []), (61, .invokevirtual 295, 3, 0, []), (64, .lload_n 3, 1, 0, []), (65, .lload_n 3, 1, 0, []), (66, .aload_n 0, 1, 0, []), (67, .getfield 30, 3, 0, []), (70, .invokevirtual 302, 3, 0, []), (73, .i2l, 1, 0, []), (74, .lmul, 1, 0, []), (75, .ldc2_w 394, 3, 0, []), (78, .ldiv, 1, 0, []), (79, .lsub, 1, 0, []), (80, .lstore_n 3, 1, 0, []), (81, .aload_n 0, 1, 0, []), (82, .getfield 101, 3, 0, []), (85, .aload_n 0, 1, 0, []), (86, .getfield 30, 3, 0, []), (89, .invokevirtual 299, 3, 0, []), (92, .invokevirtual 387, 3, 0, []), (95, .aload_n 0, 1, 0, []), (96, .getfield 101, 3, 0, []), (99, .dup, 1, 0, []), (100, .getfield 178, 3, 0, []), (103, .iconst 1, 1, 0, []), (104, .iadd, 1, 0, []), (105, .putfield 178, 3, 0, []), (108, .iinc 5 1, 3, 0, []), (111, .goto (-69), 3, 0, []), (114, .lload_n 3, 1, 0, []), (115, .lreturn, 1, 0, [])]
theorem zd_X11_odds : ∀ q ∈ zc_X11_odds, decode prog_1_method_38_code q.1 = .ok (q.2.1, q.2.2.1) := by decide +kernel
def zc_X11_sight : List (Nat × ClassFile.Instr × Nat × Nat × List (Nat × Int × Nat)) := [(0, .iload_n 2, 1, 0, []), (1, .iconst 0, 1, 0, []), (2, .bipush 23, 2, 0, []), (4, .invokestatic 107, 3, 0, []), (7, .ifCond .eq 14, 3, 0, []), (10, .iload_n 3, 1, 0, []), (11, .iconst 0, 1, 0, []), (12, .sipush 600, 3, 0, []), (15, .invokestatic 107, 3, 0, []), (18, .ifCond .ne 9, 3, 0, []), (21, .aload_n 0, 1, 0, []), (22, .iconst (-1), 1, 0, []), (23, .invokevirtual 111, 3, 0, []), (26, .ireturn, 1, 0, []), (27, .aload_n 0, 1, 0, []), (28, .getfield 10, 3, 0, []), (31, .iload_n 1, 1, 0, []), (32, .invokevirtual 150, 3, 0, []), (35, .ifCond .ne 10, 3, 0, []), (38, .aload_n 0, 1, 0, []), (39, .bipush (-2), 2, 0, []), (41, .invokevirtual 111, 3, 0, []), (44, .ireturn, 1, 0, []), (45, .aload_n 0, 1, 0, []), (46, .getfield 10, 3, 0, []), (49, .getfield 396, 3, 0, []), (52, .bipush 8, 2, 0, []), (54, .if_icmp .lt 10, 3, 0, []), (57, .aload_n 0, 1, 0, []), (58, .bipush (-5), 2, 0, []), (60, .invokevirtual 111, 3, 0, []), (63, .ireturn, 1, 0, []), (64, .aload_n 0, 1, 0, []), (65, .getfield 10, 3, 0, []), (68, .iload_n 1, 1, 0, []), (69, .iload_n 2, 1, 0, []), (70, .iload_n 3, 1, 0, []), (71, .invokevirtual 399, 3, 0, []), (74, .aload_n 0, 1, 0, []), (75, .aload_n 0, 1, 0, []), (76, .getfield 10, 3, 0, []), (79, .getfield 396, 3, 0, []), (82, .invokevirtual 118, 3, 0, []), (85, .ireturn, 1, 0, [])]
theorem zd_X11_sight : ∀ q ∈ zc_X11_sight, decode prog_1_method_39_code q.1 = .ok (q.2.1, q.2.2.1) := by decide +kernel
def zc_X9_addSight : List (Nat × ClassFile.Instr × Nat × Nat × List (Nat × Int × Nat)) := [(0, .aload_n 0, 1, 0, []), (1, .getfield 74, 3, 0, []), (4, .bipush 8, 2, 0, []), (6, .if_icmp .lt 4, 3, 0, []), (9, .return_, 1, 0, []), (10, .aload_n 0, 1, 0, []), (11, .getfield 33, 3, 0, []), (14, .aload_n 0, 1, 0, []), (15, .getfield 74, 3, 0, []), (18, .iload_n 1, 1, 0, []), (19, .iastore, 1, 0, []), (20, .aload_n 0, 1, 0, []), (21, .getfield 36, 3, 0, []), (24, .aload_n 0, 1, 0, []), (25, .getfield 74, 3, 0, []), (28, .iload_n 2, 1, 0, []), (29, .iastore, 1, 0, []), (30, .aload_n 0, 1, 0, []), (31, .getfield 39, 3, 0, []), (34, .aload_n 0, 1, 0, []), (35, .getfield 74, 3, 0, []), (38, .iload_n 3, 1, 0, []), (39, .iastore, 1, 0, []), (40, .aload_n 0, 1, 0, []), (41, .dup, 1, 0, []), (42, .getfield 74, 3, 0, []), (45, .iconst 1, 1, 0, []), (46, .iadd, 1, 0, []), (47, .putfield 74, 3, 0, []), (50, .return_, 1, 0, [])]
theorem zd_X9_addSight : ∀ q ∈ zc_X9_addSight, decode prog_11_method_9_code q.1 = .ok (q.2.1, q.2.2.1) := by decide +kernel
def zc_X11_forget : List (Nat × ClassFile.Instr × Nat × Nat × List (Nat × Int × Nat)) := [(0, .aload_n 0, 1, 0, []), (1, .getfield 10, 3, 0, []), (4, .getfield 396, 3, 0, []), (7, .istore_n 1, 1, 0, []), (8, .aload_n 0, 1, 0, []), (9, .getfield 10, 3, 0, []), (12, .iconst 0, 1, 0, []), (13, .putfield 396, 3, 0, []), (16, .iload_n 1, 1, 0, []), (17, .ireturn, 1, 0, [])]
theorem zd_X11_forget : ∀ q ∈ zc_X11_forget, decode prog_1_method_40_code q.1 = .ok (q.2.1, q.2.2.1) := by decide +kernel
def zc_X11_fits : List (Nat × ClassFile.Instr × Nat × Nat × List (Nat × Int × Nat)) := [(0, .iconst 0, 1, 0, []), (1, .istore_n 1, 1, 0, []), (2, .iconst 0, 1, 0, []), (3, .istore_n 2, 1, 0, []), (4, .iload_n 2, 1, 0, []), (5, .bipush 12, 2, 0, []), (7, .if_icmp .gt 44, 3, 0, []), (10, .aload_n 0, 1, 0, []), (11, .getfield 39, 3, 0, []), (14, .aload_n 0, 1, 0, []), (15, .getfield 10, 3, 0, []), (18, .aload_n 0, 1, 0, []), (19, .getfield 10, 3, 0, []), (22, .getfield 135, 3, 0, []), (25, .iload_n 2, 1, 0, []), (26, .invokevirtual 341, 3, 0, []), (29, .aload_n 0, 1, 0, []), (30, .getfield 39, 3, 0, []), (33, .invokevirtual 403, 3, 0, []), (36, .ifCond .eq 9, 3, 0, []), (39, .iload_n 1, 1, 0, []), (40, .iconst 1, 1, 0, []), (41, .iload_n 2, 1, 0, []), (42, .ishl, 1, 0, []), (43, .ior, 1, 0, []), (44, .istore_n 1, 1, 0, []), (45, .iinc 2 1, 3, 0, []), (48, .goto (-44), 3, 0, []), (51, .iload_n 1, 1, 0, []), (52, .ireturn, 1, 0, [])]
theorem zd_X11_fits : ∀ q ∈ zc_X11_fits, decode prog_1_method_41_code q.1 = .ok (q.2.1, q.2.2.1) := by decide +kernel
def zc_X0_areSightsSo : List (Nat × ClassFile.Instr × Nat × Nat × List (Nat × Int × Nat)) := [(0, .iconst 0, 1, 0, []), (1, .istore_n 1, 1, 0, []), (2, .iload_n 1, 1, 0, []), (3, .bipush 24, 2, 0, []), (5, .if_icmp .ge 93, 3, 0, []), (8, .aload_n 0, 1, 0, []), (9, .iload_n 1, 1, 0, []), (10, .invokevirtual 69, 3, 0, []), (13, .iconst 0, 1, 0, []), (14, .istore_n 2, 1, 0, []), (15, .iload_n 2, 1, 0, []), (16, .aload_n 0, 1, 0, []), (17, .getfield 25, 3, 0, []), (20, .getfield 141, 3, 0, []), (23, .if_icmp .ge 69, 3, 0, []), (26, .iload_n 2, 1, 0, []), (27, .bipush 8, 2, 0, []), (29, .if_icmp .ge 63, 3, 0, []), (32, .aload_n 0, 1, 0, []), (33, .getfield 25, 3, 0, []), (36, .getfield 144, 3, 0, []), (39, .iload_n 2, 1, 0, []), (40, .iaload, 1, 0, []), (41, .istore_n 3, 1, 0, []), (42, .aload_n 0, 1, 0, []), (43, .getfield 25, 3, 0, []), (46, .getfield 147, 3, 0, []), (49, .iload_n 2, 1, 0, []), (50, .iaload, 1, 0, []), (51, .iload_n 1, 1, 0, []), (52, .if_icmp .ne 34, 3, 0, []), (55, .aload_n 0, 1, 0, []), (56, .getfield 25, 3, 0, []), (59, .iload_n 3, 1, 0, []), (60, .invokevirtual 119, 3, 0, []), (63, .ifCond .eq 23, 3, 0, []), (66, .aload_n 0, 1, 0, []), (67, .getfield 15, 3, 0, []), (70, .iload_n 3, 1, 0, []), (71, .iaload, 1, 0, []), (72, .aload_n 0, 1, 0, []), (73, .getfield 25, 3, 0, []), (76, .getfield 150, 3, 0, []), (79, .iload_n 2, 1, 0, []), (80, .iaload, 1, 0, []), (81, .if_icmp .eq 5, 3, 0, []), (84, .iconst 0, 1, 0, []), (85, .ireturn, 1, 0, []), (86, .iinc 2 1, 3, 0, []), (89, .goto (-74), 3, 0, []), (92, .iinc 1 1, 3, 0, []), (95, .goto (-93), 3, 0, []), (98, .iconst 1, 1, 0, []), (99, .ireturn, 1, 0, [])]
theorem zd_X0_areSightsSo : ∀ q ∈ zc_X0_areSightsSo, decode prog_2_method_15_code q.1 = .ok (q.2.1, q.2.2.1) := by decide +kernel
def zc_X11_guards : List (Nat × ClassFile.Instr × Nat × Nat × List (Nat × Int × Nat)) := [(0, .aload_n 0, 1, 0, []), (1, .getfield 53, 3, 0, []), (4, .aload_n 0, 1, 0, []), (5, .getfield 10, 3, 0, []), (8, .getfield 115, 3, 0, []), (11, .invokevirtual 407, 3, 0, []), (14, .istore_n 2, 1, 0, []), (15, .iload_n 1, 1, 0, []), (16, .lookupswitch 35 #[(0, 28), (1, 33)], 28, 0, []), (44, .iload_n 2, 1, 0, []), (45, .invokestatic 411, 3, 0, []), (48, .ireturn, 1, 0, []), (49, .iload_n 2, 1, 0, []), (50, .ireturn, 1, 0, []), (51, .iconst (-1), 1, 0, []), (52, .ireturn, 1, 0, [])]
theorem zd_X11_guards : ∀ q ∈ zc_X11_guards, decode prog_1_method_42_code q.1 = .ok (q.2.1, q.2.2.1) := by decide +kernel
def zc_X4_fewestGuards : List (Nat × ClassFile.Instr × Nat × Nat × List (Nat × Int × Nat)) := [(0, .sipush 255, 3, 0, []), (3, .istore_n 2, 1, 0, []), (4, .iload_n 2, 1, 0, []), (5, .istore_n 3, 1, 0, []), (6, .iload_n 3, 1, 0, []), (7, .ifCond .lt 30, 3, 0, []), (10, .iload_n 3, 1, 0, []), (11, .invokestatic 18, 3, 0, []), (14, .iload_n 2, 1, 0, []), (15, .invokestatic 18, 3, 0, []), (18, .if_icmp .gt 13, 3, 0, []), (21, .aload_n 1, 1, 0, []), (22, .iload_n 3, 1, 0, []), (23, .invokestatic 24, 3, 0, []), (26, .ifCond .eq 5, 3, 0, []), (29, .iload_n 3, 1, 0, []), (30, .istore_n 2, 1, 0, []), (31, .iinc 3 (-1), 3, 0, []), (34, .goto (-28), 3, 0, []), (37, .iload_n 2, 1, 0, []), (38, .ireturn, 1, 0, [])]
theorem zd_X4_fewestGuards : ∀ q ∈ zc_X4_fewestGuards, decode prog_6_method_2_code q.1 = .ok (q.2.1, q.2.2.1) := by decide +kernel
def zc_J6_bitCount_0f7a4 : List (Nat × ClassFile.Instr × Nat × Nat × List (Nat × Int × Nat)) := [(0, .iload_n 0, 1, 0, []), (1, .iload_n 0, 1, 0, []), (2, .iconst 1, 1, 0, []), (3, .iushr, 1, 0, []), (4, .ldc_w 265, 3, 0, []), (7, .iand, 1, 0, []), (8, .isub, 1, 0, []), (9, .istore_n 0, 1, 0, []), (10, .iload_n 0, 1, 0, []), (11, .ldc_w 266, 3, 0, []), (14, .iand, 1, 0, []), (15, .iload_n 0, 1, 0, []), (16, .iconst 2, 1, 0, []), (17, .iushr, 1, 0, []), (18, .ldc_w 266, 3, 0, []), (21, .iand, 1, 0, []), (22, .iadd, 1, 0, []), (23, .istore_n 0, 1, 0, []), (24, .iload_n 0, 1, 0, []), (25, .iload_n 0, 1, 0, []), (26, .iconst 4, 1, 0, []), (27, .iushr, 1, 0, []), (28, .iadd, 1, 0, []), (29, .ldc_w 267, 3, 0, []), (32, .iand, 1, 0, []), (33, .istore_n 0, 1, 0, []), (34, .iload_n 0, 1, 0, []), (35, .iload_n 0, 1, 0, []), (36, .bipush 8, 2, 0, []), (38, .iushr, 1, 0, []), (39, .iadd, 1, 0, []), (40, .istore_n 0, 1, 0, []), (41, .iload_n 0, 1, 0, []), (42, .iload_n 0, 1, 0, []), (43, .bipush 16, 2, 0, []), (45, .iushr, 1, 0, []), (46, .iadd, 1, 0, []), (47, .istore_n 0, 1, 0, []), (48, .iload_n 0, 1, 0, []), (49, .bipush 63, 2, 0, []), (51, .iand, 1, 0, []), (52, .ireturn, 1, 0, [])]
theorem zd_J6_bitCount_0f7a4 : ∀ q ∈ zc_J6_bitCount_0f7a4, decode prog_15_method_49_code q.1 = .ok (q.2.1, q.2.2.1) := by decide +kernel
def zc_X4_isGuarded : List (Nat × ClassFile.Instr × Nat × Nat × List (Nat × Int × Nat)) := [(0, .iconst 0, 1, 0, []), (1, .istore_n 2, 1, 0, []), (2, .iload_n 2, 1, 0, []), (3, .aload_n 0, 1, 0, []), (4, .arraylength, 1, 0, []), (5, .if_icmp .ge 37, 3, 0, []), (8, .iconst 1, 1, 0, []), (9, .iload_n 2, 1, 0, []), (10, .bipush 8, 2, 0, []), (12, .idiv, 1, 0, []), (13, .ishl, 1, 0, []), (14, .iconst 1, 1, 0, []), (15, .iload_n 2, 1, 0, []), (16, .bipush 8, 2, 0, []), (18, .irem, 1, 0, []), (19, .ishl, 1, 0, []), (20, .ior, 1, 0, []), (21, .istore_n 3, 1, 0, []), (22, .aload_n 0, 1, 0, []), (23, .iload_n 2, 1, 0, []), (24, .iaload, 1, 0, []), (25, .ifCond .le 11, 3, 0, []), (28, .iload_n 3, 1, 0, []), (29, .iload_n 1, 1, 0, []), (30, .iand, 1, 0, []), (31, .ifCond .ne 5, 3, 0, []), (34, .iconst 0, 1, 0, []), (35, .ireturn, 1, 0, []), (36, .iinc 2 1, 3, 0, []), (39, .goto (-37), 3, 0, []), (42, .iconst 1, 1, 0, []), (43, .ireturn, 1, 0, [])]
theorem zd_X4_isGuarded : ∀ q ∈ zc_X4_isGuarded, decode prog_6_method_3_code q.1 = .ok (q.2.1, q.2.2.1) := by decide +kernel
def zc_X11_round : List (Nat × ClassFile.Instr × Nat × Nat × List (Nat × Int × Nat)) := [(0, .iload_n 1, 1, 0, []), (1, .iconst 0, 1, 0, []), (2, .sipush 255, 3, 0, []), (5, .invokestatic 107, 3, 0, []), (8, .ifCond .eq 16, 3, 0, []), (11, .iload_n 2, 1, 0, []), (12, .iconst (-1), 1, 0, []), (13, .if_icmp .lt 11, 3, 0, []), (16, .iload_n 2, 1, 0, []), (17, .iload_n 1, 1, 0, []), (18, .invokestatic 411, 3, 0, []), (21, .if_icmp .lt 5, 3, 0, []), (24, .iconst (-1), 1, 0, []), (25, .ireturn, 1, 0, []), (26, .aload_n 0, 1, 0, []), (27, .getfield 53, 3, 0, []), (30, .aload_n 0, 1, 0, []), (31, .getfield 10, 3, 0, []), (34, .getfield 115, 3, 0, []), (37, .iload_n 1, 1, 0, []), (38, .invokevirtual 416, 3, 0, []), (41, .aload_n 0, 1, 0, []), (42, .getfield 53, 3, 0, []), (45, .iload_n 1, 1, 0, []), (46, .invokevirtual 420, 3, 0, []), (49, .istore_n 3, 1, 0, []), (50, .iload_n 2, 1, 0, []), (51, .iconst (-1), 1, 0, []), (52, .if_icmp .eq 8, 3, 0, []), (55, .iload_n 3, 1, 0, []), (56, .iconst (-1), 1, 0, []), (57, .if_icmp .ne 7, 3, 0, []), (60, .iload_n 3, 1, 0, []), (61, .goto 12, 3, 0, []), (64, .aload_n 0, 1, 0, []), (65, .getfield 53, 3, 0, []), (68, .iload_n 1, 1, 0, []), (69, .iload_n 2, 1, 0, []), (70, .invokevirtual 423, 3, 0, []), (73, .ireturn, 1, 0, [])]
theorem zd_X11_round : ∀ q ∈ zc_X11_round, decode prog_1_method_43_code q.1 = .ok (q.2.1, q.2.2.1) := by decide +kernel
def zc_X4_measure : List (Nat × ClassFile.Instr × Nat × Nat × List (Nat × Int × Nat)) := [(0, .aload_n 0, 1, 0, []), (1, .aload_n 1, 1, 0, []), (2, .invokevirtual 28, 3, 0, []), (5, .iconst 0, 1, 0, []), (6, .istore_n 3, 1, 0, []), (7, .iload_n 3, 1, 0, []), (8, .iload_n 2, 1, 0, []), (9, .if_icmp .gt 76, 3, 0, []), (12, .iload_n 3, 1, 0, []), (13, .sipush 256, 3, 0, []), (16, .if_icmp .ge 69, 3, 0, []), (19, .iload_n 3, 1, 0, []), (20, .iload_n 2, 1, 0, []), (21, .iconst (-1), 1, 0, []), (22, .ixor, 1, 0, []), (23, .iand, 1, 0, []), (24, .ifCond .eq 6, 3, 0, []), (27, .goto 52, 3, 0, []), (30, .iconst 0, 1, 0, []), (31, .istore 4, 2, 0, []), (33, .iload 4, 2, 0, []), (35, .bipush 8, 2, 0, []), (37, .if_icmp .ge 42, 3, 0, []), (40, .aload_n 0, 1, 0, []), (41, .getfield 15, 3, 0, []), (44, .iload_n 3, 1, 0, []), (45, .bipush 8, 2, 0, []), (47, .imul, 1, 0, []), (48, .iload 4, 2, 0, []), (50, .iadd, 1, 0, []), (51, .iload_n 3, 1, 0, []), (52, .ifCond .ne 13, 3, 0, []), (55, .aload_n 0, 1, 0, []), (56, .iload 4, 2, 0, []), (58, .iconst 0, 1, 0, []), (59, .invokevirtual 32, 3, 0, []), (62, .goto 10, 3, 0, []), (65, .aload_n 0, 1, 0, []), (66, .iload_n 3, 1, 0, []), (67, .iload 4, 2, 0, []), (69, .invokevirtual 36, 3, 0, []), (72, .iastore, 1, 0, []), (73, .iinc 4 1, 3, 0, []), (76, .goto (-43), 3, 0, []), (79, .iinc 3 1, 3, 0, []), (82, .goto (-75), 3, 0, []), (85, .return_, 1, 0, [])]
theorem zd_X4_measure : ∀ q ∈ zc_X4_measure, decode prog_6_method_4_code q.1 = .ok (q.2.1, q.2.2.1) := by decide +kernel
def zc_X4_measureWays : List (Nat × ClassFile.Instr × Nat × Nat × List (Nat × Int × Nat)) := [(0, .iconst 0, 1, 0, []), (1, .istore_n 2, 1, 0, []), (2, .iload_n 2, 1, 0, []), (3, .aload_n 0, 1, 0, []), (4, .getfield 11, 3, 0, []), (7, .arraylength, 1, 0, []), (8, .if_icmp .ge 52, 3, 0, []), (11, .iload_n 2, 1, 0, []), (12, .aload_n 1, 1, 0, []), (13, .arraylength, 1, 0, []), (14, .if_icmp .ge 46, 3, 0, []), (17, .aload_n 1, 1, 0, []), (18, .iload_n 2, 1, 0, []), (19, .iaload, 1, 0, []), (20, .ifCond .le 9, 3, 0, []), (23, .aload_n 1, 1, 0, []), (24, .iload_n 2, 1, 0, []), (25, .iaload, 1, 0, []), (26, .goto 5, 3, 0, []), (29, .ldc 39, 2, 0, []), (31, .istore_n 3, 1, 0, []), (32, .aload_n 0, 1, 0, []), (33, .getfield 11, 3, 0, []), (36, .iload_n 2, 1, 0, []), (37, .iload_n 2, 1, 0, []), (38, .bipush 8, 2, 0, []), (40, .idiv, 1, 0, []), (41, .iload_n 2, 1, 0, []), (42, .bipush 8, 2, 0, []), (44, .irem, 1, 0, []), (45, .if_icmp .ne 7, 3, 0, []), (48, .iconst 0, 1, 0, []), (49, .goto 4, 3, 0, []), (52, .iload_n 3, 1, 0, []), (53, .iastore, 1, 0, []), (54, .iinc 2 1, 3, 0, []), (57, .goto (-55), 3, 0, []), (60, .iconst 0, 1, 0, []), (61, .istore_n 2, 1, 0, []), (62, .iload_n 2, 1, 0, []), (63, .bipush 8, 2, 0, []), (65, .if_icmp .ge 79, 3, 0, []), (68, .iconst 0, 1, 0, []), (69, .istore_n 3, 1, 0, []), (70, .iload_n 3, 1, 0, []), (71, .bipush 8, 2, 0, []), (73, .if_icmp .ge 65, 3, 0, []), (76, .iconst 0, 1, 0, []), (77, .istore 4, 2, 0, []), (79, .iload 4, 2, 0, []), (81, .bipush 8, 2, 0, []), (83, .if_icmp .ge 49, 3, 0, []), (86, .aload_n 0, 1, 0, []), (87, .iload_n 3, 1, 0, []), (88, .iload_n 2, 1, 0, []), (89, .invokevirtual 32, 3, 0, []), (92, .aload_n 0, 1, 0, []), (93, .iload_n 2, 1, 0, []), (94, .iload 4, 2, 0, []), (96, .invokevirtual 32, 3, 0, []), (99, .iadd, 1, 0, []), (100, .istore 5, 2, 0, []), (102, .aload_n 0, 1, 0, []), (103, .getfield 11, 3, 0, []), (106, .iload_n 3, 1, 0, []), (107, .bipush 8, 2, 0, []), (109, .imul, 1, 0, []), (110, .iload 4, 2, 0, []), (112, .iadd, 1, 0, []), (113, .aload_n 0, 1, 0, []), (114, .iload_n 3, 1, 0, []), (115, .iload 4, 2, 0, []), (117, .invokevirtual 32, 3, 0, []), (120, .iload 5, 2, 0, []), (122, .invokestatic 40, 3, 0, []), (125, .iastore, 1, 0, []), (126, .iinc 4 1, 3, 0, []), (129, .goto (-50), 3, 0, []), (132, .iinc 3 1, 3, 0, []), (135, .goto (-65), 3, 0, []), (138, .iinc 2 1, 3, 0, []), (141, .goto (-79), 3, 0, []), (144, .return_, 1, 0, [])]
theorem zd_X4_measureWays : ∀ q ∈ zc_X4_measureWays, decode prog_6_method_5_code q.1 = .ok (q.2.1, q.2.2.1) := by decide +kernel
def zc_X4_way : List (Nat × ClassFile.Instr × Nat × Nat × List (Nat × Int × Nat)) := [(0, .iload_n 1, 1, 0, []), (1, .bipush 8, 2, 0, []), (3, .imul, 1, 0, []), (4, .iload_n 2, 1, 0, []), (5, .iadd, 1, 0, []), (6, .istore_n 3, 1, 0, []), (7, .iload_n 3, 1, 0, []), (8, .ifCond .lt 21, 3, 0, []), (11, .iload_n 3, 1, 0, []), (12, .aload_n 0, 1, 0, []), (13, .getfield 11, 3, 0, []), (16, .arraylength, 1, 0, []), (17, .if_icmp .ge 12, 3, 0, []), (20, .aload_n 0, 1, 0, []), (21, .getfield 11, 3, 0, []), (24, .iload_n 3, 1, 0, []), (25, .iaload, 1, 0, []), (26, .goto 5, 3, 0, []), (29, .ldc 39, 2, 0, []), (31, .ireturn, 1, 0, [])]
theorem zd_X4_way : ∀ q ∈ zc_X4_way, decode prog_6_method_6_code q.1 = .ok (q.2.1, q.2.2.1) := by decide +kernel
def zc_X4_leastOf : List (Nat × ClassFile.Instr × Nat × Nat × List (Nat × Int × Nat)) := [(0, .ldc 45, 2, 0, []), (2, .istore_n 3, 1, 0, []), (3, .iconst 0, 1, 0, []), (4, .istore 4, 2, 0, []), (6, .iload 4, 2, 0, []), (8, .bipush 8, 2, 0, []), (10, .if_icmp .ge 32, 3, 0, []), (13, .iload_n 1, 1, 0, []), (14, .iload 4, 2, 0, []), (16, .ishr, 1, 0, []), (17, .iconst 1, 1, 0, []), (18, .iand, 1, 0, []), (19, .iconst 1, 1, 0, []), (20, .if_icmp .ne 16, 3, 0, []), (23, .iload_n 3, 1, 0, []), (24, .aload_n 0, 1, 0, []), (25, .iload_n 1, 1, 0, []), (26, .iload_n 2, 1, 0, []), (27, .iload 4, 2, 0, []), (29, .invokevirtual 46, 3, 0, []), (32, .invokestatic 40, 3, 0, []), (35, .istore_n 3, 1, 0, []), (36, .iinc 4 1, 3, 0, []), (39, .goto (-33), 3, 0, []), (42, .iload_n 3, 1, 0, []), (43, .ireturn, 1, 0, [])]
theorem zd_X4_leastOf : ∀ q ∈ zc_X4_leastOf, decode prog_6_method_7_code q.1 = .ok (q.2.1, q.2.2.1) := by decide +kernel
def zc_X4_by : List (Nat × ClassFile.Instr × Nat × Nat × List (Nat × Int × Nat)) := [(0, .iload_n 1, 1, 0, []), (1, .iconst 1, 1, 0, []), (2, .iload_n 3, 1, 0, []), (3, .ishl, 1, 0, []), (4, .iconst (-1), 1, 0, []), (5, .ixor, 1, 0, []), (6, .iand, 1, 0, []), (7, .bipush 8, 2, 0, []), (9, .imul, 1, 0, []), (10, .iload_n 3, 1, 0, []), (11, .iadd, 1, 0, []), (12, .istore 4, 2, 0, []), (14, .aload_n 0, 1, 0, []), (15, .iload_n 2, 1, 0, []), (16, .iload_n 3, 1, 0, []), (17, .invokevirtual 32, 3, 0, []), (20, .iload 4, 2, 0, []), (22, .ifCond .lt 23, 3, 0, []), (25, .iload 4, 2, 0, []), (27, .aload_n 0, 1, 0, []), (28, .getfield 15, 3, 0, []), (31, .arraylength, 1, 0, []), (32, .if_icmp .ge 13, 3, 0, []), (35, .aload_n 0, 1, 0, []), (36, .getfield 15, 3, 0, []), (39, .iload 4, 2, 0, []), (41, .iaload, 1, 0, []), (42, .goto 5, 3, 0, []), (45, .ldc 39, 2, 0, []), (47, .iadd, 1, 0, []), (48, .ireturn, 1, 0, [])]
theorem zd_X4_by : ∀ q ∈ zc_X4_by, decode prog_6_method_8_code q.1 = .ok (q.2.1, q.2.2.1) := by decide +kernel
def zc_X4_roundOf : List (Nat × ClassFile.Instr × Nat × Nat × List (Nat × Int × Nat)) := [(0, .iload_n 1, 1, 0, []), (1, .bipush 8, 2, 0, []), (3, .imul, 1, 0, []), (4, .istore_n 2, 1, 0, []), (5, .iload_n 2, 1, 0, []), (6, .ifCond .lt 21, 3, 0, []), (9, .iload_n 2, 1, 0, []), (10, .aload_n 0, 1, 0, []), (11, .getfield 15, 3, 0, []), (14, .arraylength, 1, 0, []), (15, .if_icmp .ge 12, 3, 0, []), (18, .aload_n 0, 1, 0, []), (19, .getfield 15, 3, 0, []), (22, .iload_n 2, 1, 0, []), (23, .iaload, 1, 0, []), (24, .goto 5, 3, 0, []), (27, .ldc 39, 2, 0, []), (29, .istore_n 3, 1, 0, []), (30, .iload_n 3, 1, 0, []), (31, .ldc 39, 2, 0, []), (33, .if_icmp .lt 7, 3, 0, []), (36, .iconst (-1), 1, 0, []), (37, .goto 4, 3, 0, []), (40, .iload_n 3, 1, 0, []), (41, .ireturn, 1, 0, [])]
theorem zd_X4_roundOf : ∀ q ∈ zc_X4_roundOf, decode prog_6_method_9_code q.1 = .ok (q.2.1, q.2.2.1) := by decide +kernel
def zc_X4_stop : List (Nat × ClassFile.Instr × Nat × Nat × List (Nat × Int × Nat)) := [(0, .iload_n 1, 1, 0, []), (1, .istore_n 3, 1, 0, []), (2, .iconst 0, 1, 0, []), (3, .istore 4, 2, 0, []), (5, .iconst 0, 1, 0, []), (6, .istore 5, 2, 0, []), (8, .iload 5, 2, 0, []), (10, .iload_n 2, 1, 0, []), (11, .if_icmp .gt 46, 3, 0, []), (14, .iload 5, 2, 0, []), (16, .bipush 8, 2, 0, []), (18, .if_icmp .ge 39, 3, 0, []), (21, .aload_n 0, 1, 0, []), (22, .iload_n 3, 1, 0, []), (23, .iload 4, 2, 0, []), (25, .invokevirtual 50, 3, 0, []), (28, .istore 6, 2, 0, []), (30, .iload 6, 2, 0, []), (32, .iconst (-1), 1, 0, []), (33, .if_icmp .ne 5, 3, 0, []), (36, .iconst (-1), 1, 0, []), (37, .ireturn, 1, 0, []), (38, .iload_n 3, 1, 0, []), (39, .iconst 1, 1, 0, []), (40, .iload 6, 2, 0, []), (42, .ishl, 1, 0, []), (43, .iconst (-1), 1, 0, []), (44, .ixor, 1, 0, []), (45, .iand, 1, 0, []), (46, .istore_n 3, 1, 0, []), (47, .iload 6, 2, 0, []), (49, .istore 4, 2, 0, []), (51, .iinc 5 1, 3, 0, []), (54, .goto (-46), 3, 0, []), (57, .iload 4, 2, 0, []), (59, .ireturn, 1, 0, [])]
theorem zd_X4_stop : ∀ q ∈ zc_X4_stop, decode prog_6_method_10_code q.1 = .ok (q.2.1, q.2.2.1) := by decide +kernel
def zc_X4_firstOf : List (Nat × ClassFile.Instr × Nat × Nat × List (Nat × Int × Nat)) := [(0, .aload_n 0, 1, 0, []), (1, .iload_n 1, 1, 0, []), (2, .iload_n 2, 1, 0, []), (3, .invokevirtual 36, 3, 0, []), (6, .istore_n 3, 1, 0, []), (7, .iconst 0, 1, 0, []), (8, .istore 4, 2, 0, []), (10, .iload 4, 2, 0, []), (12, .bipush 8, 2, 0, []), (14, .if_icmp .ge 34, 3, 0, []), (17, .iload_n 1, 1, 0, []), (18, .iload 4, 2, 0, []), (20, .ishr, 1, 0, []), (21, .iconst 1, 1, 0, []), (22, .iand, 1, 0, []), (23, .iconst 1, 1, 0, []), (24, .if_icmp .ne 18, 3, 0, []), (27, .aload_n 0, 1, 0, []), (28, .iload_n 1, 1, 0, []), (29, .iload_n 2, 1, 0, []), (30, .iload 4, 2, 0, []), (32, .invokevirtual 46, 3, 0, []), (35, .iload_n 3, 1, 0, []), (36, .if_icmp .ne 6, 3, 0, []), (39, .iload 4, 2, 0, []), (41, .ireturn, 1, 0, []), (42, .iinc 4 1, 3, 0, []), (45, .goto (-35), 3, 0, []), (48, .iconst (-1), 1, 0, []), (49, .ireturn, 1, 0, [])]
theorem zd_X4_firstOf : ∀ q ∈ zc_X4_firstOf, decode prog_6_method_11_code q.1 = .ok (q.2.1, q.2.2.1) := by decide +kernel
def zc_X11_game : List (Nat × ClassFile.Instr × Nat × Nat × List (Nat × Int × Nat)) := [(0, .iload_n 1, 1, 0, []), (1, .iconst 0, 1, 0, []), (2, .bipush 12, 2, 0, []), (4, .invokestatic 107, 3, 0, []), (7, .ifCond .ne 5, 3, 0, []), (10, .iconst (-1), 1, 0, []), (11, .ireturn, 1, 0, []), (12, .bipush 12, 2, 0, []), (14, .iload_n 1, 1, 0, []), (15, .isub, 1, 0, []), (16, .iconst 4, 1, 0, []), (17, .irem, 1, 0, []), (18, .ireturn, 1, 0, [])]
theorem zd_X11_game : ∀ q ∈ zc_X11_game, decode prog_1_method_44_code q.1 = .ok (q.2.1, q.2.2.1) := by decide +kernel
def zc_X11_decade : List (Nat × ClassFile.Instr × Nat × Nat × List (Nat × Int × Nat)) := [(0, .iload_n 1, 1, 0, []), (1, .iconst 0, 1, 0, []), (2, .ldc_w 426, 3, 0, []), (5, .invokestatic 107, 3, 0, []), (8, .ifCond .eq 13, 3, 0, []), (11, .iload_n 2, 1, 0, []), (12, .iconst 1, 1, 0, []), (13, .bipush 60, 2, 0, []), (15, .invokestatic 107, 3, 0, []), (18, .ifCond .ne 9, 3, 0, []), (21, .aload_n 0, 1, 0, []), (22, .iconst (-1), 1, 0, []), (23, .invokevirtual 111, 3, 0, []), (26, .ireturn, 1, 0, []), (27, .aload_n 0, 1, 0, []), (28, .aload_n 0, 1, 0, []), (29, .getfield 60, 3, 0, []), (32, .aload_n 0, 1, 0, []), (33, .getfield 10, 3, 0, []), (36, .aload_n 0, 1, 0, []), (37, .getfield 39, 3, 0, []), (40, .aload_n 0, 1, 0, []), (41, .getfield 30, 3, 0, []), (44, .iload_n 1, 1, 0, []), (45, .iload_n 2, 1, 0, []), (46, .invokevirtual 427, 3, 0, []), (49, .invokevirtual 118, 3, 0, []), (52, .ireturn, 1, 0, [])]
theorem zd_X11_decade : ∀ q ∈ zc_X11_decade, decode prog_1_method_45_code q.1 = .ok (q.2.1, q.2.2.1) := by decide +kernel
def zc_X1_play : List (Nat × ClassFile.Instr × Nat × Nat × List (Nat × Int × Nat)) := [(0, .aload_n 0, 1, 0, []), (1, .getfield 12, 3, 0, []), (4, .aload_n 1, 1, 0, []), (5, .getfield 22, 3, 0, []), (8, .invokevirtual 25, 3, 0, []), (11, .aload_n 0, 1, 0, []), (12, .aload_n 1, 1, 0, []), (13, .getfield 29, 3, 0, []), (16, .putfield 18, 3, 0, []), (19, .aload_n 0, 1, 0, []), (20, .iload 4, 2, 0, []), (22, .putfield 30, 3, 0, []), (25, .aload_n 0, 1, 0, []), (26, .iconst 0, 1, 0, []), (27, .putfield 33, 3, 0, []), (30, .iconst 0, 1, 0, []), (31, .istore 6, 2, 0, []), (33, .iconst 0, 1, 0, []), (34, .istore 7, 2, 0, []), (36, .iload 7, 2, 0, []), (38, .iload 5, 2, 0, []), (40, .if_icmp .ge 100, 3, 0, []), (43, .aload_n 0, 1, 0, []), (44, .getfield 12, 3, 0, []), (47, .getfield 36, 3, 0, []), (50, .sipush 999, 3, 0, []), (53, .if_icmp .ge 87, 3, 0, []), (56, .aload_n 0, 1, 0, []), (57, .getfield 12, 3, 0, []), (60, .getfield 39, 3, 0, []), (63, .iconst (-1), 1, 0, []), (64, .if_icmp .ne 19, 3, 0, []), (67, .aload_n 0, 1, 0, []), (68, .getfield 12, 3, 0, []), (71, .getfield 42, 3, 0, []), (74, .ifCond .ne 9, 3, 0, []), (77, .aload_n 0, 1, 0, []), (78, .aload_n 1, 1, 0, []), (79, .aload_n 3, 1, 0, []), (80, .invokevirtual 46, 3, 0, []), (83, .aload_n 0, 1, 0, []), (84, .getfield 12, 3, 0, []), (87, .getfield 39, 3, 0, []), (90, .iconst (-1), 1, 0, []), (91, .if_icmp .ne 19, 3, 0, []), (94, .aload_n 0, 1, 0, []), (95, .getfield 12, 3, 0, []), (98, .dup, 1, 0, []), (99, .getfield 36, 3, 0, []), (102, .iconst 1, 1, 0, []), (103, .iadd, 1, 0, []), (104, .putfield 36, 3, 0, []), (107, .goto 27, 3, 0, []), (110, .iload 6, 2, 0, []), (112, .aload_n 2, 1, 0, []), (113, .aload_n 1, 1, 0, []), (114, .aload_n 0, 1, 0, []), (115, .getfield 12, 3, 0, []), (118, .invokevirtual 50, 3, 0, []), (121, .iadd, 1, 0, []), (122, .istore 6, 2, 0, []), (124, .aload_n 0, 1, 0, []), (125, .dup, 1, 0, []), (126, .getfield 33, 3, 0, []), (129, .iconst 1, 1, 0, []), (130, .iadd, 1, 0, []), (131, .putfield 33, 3, 0, []), (134, .iinc 7 1, 3, 0, []), (137, .goto (-101), 3, 0, []), (140, .iload 6, 2, 0, []), (142, .ireturn, 1, 0, [])]
theorem zd_X1_play : ∀ q ∈ zc_X1_play, decode prog_3_method_2_code q.1 = .ok (q.2.1, q.2.2.1) := by decide +kernel
def zc_X1_windByDraws : List (Nat × ClassFile.Instr × Nat × Nat × List (Nat × Int × Nat)) := [(0, .aload_n 0, 1, 0, []), (1, .bipush 13, 2, 0, []), (3, .invokevirtual 56, 3, 0, []), (6, .aload_n 1, 1, 0, []), (7, .aload_n 0, 1, 0, []), (8, .getfield 12, 3, 0, []), (11, .invokevirtual 60, 3, 0, []), (14, .invokestatic 64, 3, 0, []), (17, .istore_n 3, 1, 0, []), (18, .aload_n 2, 1, 0, []), (19, .aload_n 1, 1, 0, []), (20, .aload_n 0, 1, 0, []), (21, .getfield 12, 3, 0, []), (24, .iload_n 3, 1, 0, []), (25, .invokevirtual 70, 3, 0, []), (28, .aload_n 0, 1, 0, []), (29, .bipush 100, 2, 0, []), (31, .invokevirtual 56, 3, 0, []), (34, .aload_n 2, 1, 0, []), (35, .invokevirtual 76, 3, 0, []), (38, .if_icmp .ge 14, 3, 0, []), (41, .aload_n 0, 1, 0, []), (42, .getfield 12, 3, 0, []), (45, .iconst 1, 1, 0, []), (46, .putfield 42, 3, 0, []), (49, .goto 15, 3, 0, []), (52, .aload_n 0, 1, 0, []), (53, .getfield 12, 3, 0, []), (56, .iload_n 3, 1, 0, []), (57, .aload_n 2, 1, 0, []), (58, .invokevirtual 80, 3, 0, []), (61, .invokevirtual 83, 3, 0, []), (64, .return_, 1, 0, [])]
theorem zd_X1_windByDraws : ∀ q ∈ zc_X1_windByDraws, decode prog_3_method_3_code q.1 = .ok (q.2.1, q.2.2.1) := by decide +kernel
def zc_X1_draw : List (Nat × ClassFile.Instr × Nat × Nat × List (Nat × Int × Nat)) := [(0, .aload_n 0, 1, 0, []), (1, .aload_n 0, 1, 0, []), (2, .getfield 30, 3, 0, []), (5, .sipush 1103, 3, 0, []), (8, .imul, 1, 0, []), (9, .sipush 12345, 3, 0, []), (12, .iadd, 1, 0, []), (13, .ldc 87, 2, 0, []), (15, .irem, 1, 0, []), (16, .putfield 30, 3, 0, []), (19, .iload_n 1, 1, 0, []), (20, .ifCond .le 12, 3, 0, []), (23, .aload_n 0, 1, 0, []), (24, .getfield 30, 3, 0, []), (27, .iload_n 1, 1, 0, []), (28, .irem, 1, 0, []), (29, .goto 4, 3, 0, []), (32, .iconst 0, 1, 0, []), (33, .ireturn, 1, 0, [])]
theorem zd_X1_draw : ∀ q ∈ zc_X1_draw, decode prog_3_method_4_code q.1 = .ok (q.2.1, q.2.2.1) := by decide +kernel
def zc_X11_drawn : List (Nat × ClassFile.Instr × Nat × Nat × List (Nat × Int × Nat)) := [(0, .aload_n 0, 1, 0, []), (1, .getfield 60, 3, 0, []), (4, .iload_n 1, 1, 0, []), (5, .invokevirtual 431, 3, 0, []), (8, .ireturn, 1, 0, [])]
theorem zd_X11_drawn : ∀ q ∈ zc_X11_drawn, decode prog_1_method_46_code q.1 = .ok (q.2.1, q.2.2.1) := by decide +kernel
def zc_X1_told : List (Nat × ClassFile.Instr × Nat × Nat × List (Nat × Int × Nat)) := [(0, .aload_n 0, 1, 0, []), (1, .getfield 18, 3, 0, []), (4, .iconst (-1), 1, 0, []), (5, .if_icmp .ne 5, 3, 0, []), (8, .iconst (-1), 1, 0, []), (9, .ireturn, 1, 0, []), (10, .iload_n 1, 1, 0, []), (11, .tableswitch 66 0 3 #[29, 37, 53, 61], 29, 0, []), (40, .aload_n 0, 1, 0, []), (41, .getfield 12, 3, 0, []), (44, .getfield 88, 3, 0, []), (47, .ireturn, 1, 0, []), (48, .aload_n 0, 1, 0, []), (49, .getfield 12, 3, 0, []), (52, .getfield 42, 3, 0, []), (55, .ifCond .eq 7, 3, 0, []), (58, .iconst 1, 1, 0, []), (59, .goto 4, 3, 0, []), (62, .iconst 0, 1, 0, []), (63, .ireturn, 1, 0, []), (64, .aload_n 0, 1, 0, []), (65, .getfield 12, 3, 0, []), (68, .getfield 36, 3, 0, []), (71, .ireturn, 1, 0, []), (72, .aload_n 0, 1, 0, []), (73, .getfield 33, 3, 0, []), (76, .ireturn, 1, 0, []), (77, .iload_n 1, 1, 0, []), (78, .iconst 4, 1, 0, []), (79, .if_icmp .lt 35, 3, 0, []), (82, .iload_n 1, 1, 0, []), (83, .iconst 4, 1, 0, []), (84, .isub, 1, 0, []), (85, .aload_n 0, 1, 0, []), (86, .getfield 18, 3, 0, []), (89, .if_icmp .ge 25, 3, 0, []), (92, .iload_n 1, 1, 0, []), (93, .iconst 4, 1, 0, []), (94, .isub, 1, 0, []), (95, .bipush 10, 2, 0, []), (97, .if_icmp .ge 17, 3, 0, []), (100, .aload_n 0, 1, 0, []), (101, .getfield 12, 3, 0, []), (104, .getfield 91, 3, 0, []), (107, .iload_n 1, 1, 0, []), (108, .iconst 4, 1, 0, []), (109, .isub, 1, 0, []), (110, .iaload, 1, 0, []), (111, .goto 4, 3, 0, []), (114, .iconst (-1), 1, 0, []), (115, .ireturn, 1, 0, [])]
theorem zd_X1_told : ∀ q ∈ zc_X1_told, decode prog_3_method_5_code q.1 = .ok (q.2.1, q.2.2.1) := by decide +kernel
def zc_X11_image : List (Nat × ClassFile.Instr × Nat × Nat × List (Nat × Int × Nat)) := [(0, .iload_n 1, 1, 0, []), (1, .iconst 0, 1, 0, []), (2, .iconst 1, 1, 0, []), (3, .invokestatic 107, 3, 0, []), (6, .ifCond .ne 9, 3, 0, []), (9, .aload_n 0, 1, 0, []), (10, .iconst (-1), 1, 0, []), (11, .invokevirtual 111, 3, 0, []), (14, .ireturn, 1, 0, []), (15, .aload_n 0, 1, 0, []), (16, .getfield 16, 3, 0, []), (19, .iload_n 1, 1, 0, []), (20, .aaload, 1, 0, []), (21, .astore_n 2, 1, 0, []), (22, .aload_n 2, 1, 0, []), (23, .ifnonnull 18, 3, 0, []), (26, .new 7, 3, 0, []), (29, .dup, 1, 0, []), (30, .invokespecial 9, 3, 0, []), (33, .astore_n 2, 1, 0, []), (34, .aload_n 0, 1, 0, []), (35, .getfield 16, 3, 0, []), (38, .iload_n 1, 1, 0, []), (39, .aload_n 2, 1, 0, []), (40, .aastore, 1, 0, []), (41, .aload_n 2, 1, 0, []), (42, .aload_n 0, 1, 0, []), (43, .getfield 10, 3, 0, []), (46, .invokevirtual 434, 3, 0, []), (49, .aload_n 0, 1, 0, []), (50, .iconst 0, 1, 0, []), (51, .invokevirtual 118, 3, 0, []), (54, .ireturn, 1, 0, [])]
theorem zd_X11_image : ∀ q ∈ zc_X11_image, decode prog_1_method_47_code q.1 = .ok (q.2.1, q.2.2.1) := by decide +kernel
def zc_X9_copyFrom : List (Nat × ClassFile.Instr × Nat × Nat × List (Nat × Int × Nat)) := [(0, .aload_n 1, 1, 0, []), (1, .getfield 9, 3, 0, []), (4, .iconst 0, 1, 0, []), (5, .aload_n 0, 1, 0, []), (6, .getfield 9, 3, 0, []), (9, .iconst 0, 1, 0, []), (10, .bipush 64, 2, 0, []), (12, .invokestatic 62, 3, 0, []), (15, .aload_n 0, 1, 0, []), (16, .aload_n 1, 1, 0, []), (17, .getfield 68, 3, 0, []), (20, .putfield 68, 3, 0, []), (23, .aload_n 1, 1, 0, []), (24, .getfield 15, 3, 0, []), (27, .iconst 0, 1, 0, []), (28, .aload_n 0, 1, 0, []), (29, .getfield 15, 3, 0, []), (32, .iconst 0, 1, 0, []), (33, .bipush 6, 2, 0, []), (35, .invokestatic 62, 3, 0, []), (38, .aload_n 0, 1, 0, []), (39, .aload_n 1, 1, 0, []), (40, .getfield 71, 3, 0, []), (43, .putfield 71, 3, 0, []), (46, .aload_n 1, 1, 0, []), (47, .getfield 18, 3, 0, []), (50, .iconst 0, 1, 0, []), (51, .aload_n 0, 1, 0, []), (52, .getfield 18, 3, 0, []), (55, .iconst 0, 1, 0, []), (56, .bipush 10, 2, 0, []), (58, .invokestatic 62, 3, 0, []), (61, .aload_n 1, 1, 0, []), (62, .getfield 21, 3, 0, []), (65, .iconst 0, 1, 0, []), (66, .aload_n 0, 1, 0, []), (67, .getfield 21, 3, 0, []), (70, .iconst 0, 1, 0, []), (71, .bipush 10, 2, 0, []), (73, .invokestatic 62, 3, 0, []), (76, .aload_n 1, 1, 0, []), (77, .getfield 24, 3, 0, []), (80, .iconst 0, 1, 0, []), (81, .aload_n 0, 1, 0, []), (82, .getfield 24, 3, 0, []), (85, .iconst 0, 1, 0, []), (86, .bipush 10, 2, 0, []), (88, .invokestatic 62, 3, 0, []), (91, .aload_n 1, 1, 0, []), (92, .getfield 27, 3, 0, []), (95, .iconst 0, 1, 0, []), (96, .aload_n 0, 1, 0, []), (97, .getfield 27, 3, 0, []), (100, .iconst 0, 1, 0, []), (101, .bipush 10, 2, 0, []), (103, .invokestatic 62, 3, 0, []), (106, .aload_n 1, 1, 0, []), (107, .getfield 30, 3, 0, []), (110, .iconst 0, 1, 0, []), (111, .aload_n 0, 1, 0, []), (112, .getfield 30, 3, 0, []), (115, .iconst 0, 1, 0, []), (116, .bipush 10, 2, 0, []), (118, .invokestatic 62, 3, 0, []), (121, .aload_n 0, 1, 0, []), (122, .aload_n 1, 1, 0, []), (123, .getfield 74, 3, 0, []), (126, .putfield 74, 3, 0, []), (129, .aload_n 1, 1, 0, []), (130, .getfield 33, 3, 0, []), (133, .iconst 0, 1, 0, []), (134, .aload_n 0, 1, 0, []), (135, .getfield 33, 3, 0, []), (138, .iconst 0, 1, 0, []), (139, .bipush 8, 2, 0, []), (141, .invokestatic 62, 3, 0, []), (144, .aload_n 1, 1, 0, []), (145, .getfield 36, 3, 0, []), (148, .iconst 0, 1, 0, []), (149, .aload_n 0, 1, 0, []), (150, .getfield 36, 3, 0, []), (153, .iconst 0, 1, 0, []), (154, .bipush 8, 2, 0, []), (156, .invokestatic 62, 3, 0, []), (159, .aload_n 1, 1, 0, []), (160, .getfield 39, 3, 0, []), (163, .iconst 0, 1, 0, []), (164, .aload_n 0, 1, 0, []), (165, .getfield 39, 3, 0, []), (168, .iconst 0, 1, 0, []), (169, .bipush 8, 2, 0, []), (171, .invokestatic 62, 3, 0, []), (174, .iconst 0, 1, 0, []), (175, .istore_n 2, 1, 0, []), (176, .iload_n 2, 1, 0, []), (177, .bipush 6, 2, 0, []), (179, .if_icmp .ge 21, 3, 0, []), (182, .aload_n 0, 1, 0, []), (183, .getfield 44, 3, 0, []), (186, .iload_n 2, 1, 0, []), (187, .aload_n 1, 1, 0, []), (188, .getfield 44, 3, 0, []), (191, .iload_n 2, 1, 0, []), (192, .aaload, 1, 0, []), (193, .aastore, 1, 0, []), (194, .iinc 2 1, 3, 0, []), (197, .goto (-21), 3, 0, []), (200, .aload_n 0, 1, 0, []), (201, .aload_n 1, 1, 0, []), (202, .getfield 77, 3, 0, []), (205, .putfield 77, 3, 0, []), (208, .aload_n 0, 1, 0, []), (209, .aload_n 1, 1, 0, []), (210, .getfield 48, 3, 0, []), (213, .putfield 48, 3, 0, []), (216, .aload_n 0, 1, 0, []), (217, .aload_n 1, 1, 0, []), (218, .getfield 52, 3, 0, []), (221, .putfield 52, 3, 0, []), (224, .aload_n 0, 1, 0, []), (225, .aload_n 1, 1, 0, []), (226, .getfield 80, 3, 0, []), (229, .putfield 80, 3, 0, []), (232, .aload_n 0, 1, 0, []), (233, .getfield 58, 3, 0, []), (236, .aload_n 1, 1, 0, []), (237, .getfield 58, 3, 0, []), (240, .invokevirtual 83, 3, 0, []), (243, .return_, 1, 0, [])]
theorem zd_X9_copyFrom : ∀ q ∈ zc_X9_copyFrom, decode prog_11_method_2_code q.1 = .ok (q.2.1, q.2.2.1) := by decide +kernel
def zc_X11_back : List (Nat × ClassFile.Instr × Nat × Nat × List (Nat × Int × Nat)) := [(0, .iload_n 1, 1, 0, []), (1, .iconst 0, 1, 0, []), (2, .iconst 1, 1, 0, []), (3, .invokestatic 107, 3, 0, []), (6, .ifCond .ne 9, 3, 0, []), (9, .aload_n 0, 1, 0, []), (10, .iconst (-1), 1, 0, []), (11, .invokevirtual 111, 3, 0, []), (14, .ireturn, 1, 0, []), (15, .aload_n 0, 1, 0, []), (16, .getfield 16, 3, 0, []), (19, .iload_n 1, 1, 0, []), (20, .aaload, 1, 0, []), (21, .astore_n 2, 1, 0, []), (22, .aload_n 2, 1, 0, []), (23, .ifnonnull 10, 3, 0, []), (26, .aload_n 0, 1, 0, []), (27, .bipush (-2), 2, 0, []), (29, .invokevirtual 111, 3, 0, []), (32, .ireturn, 1, 0, []), (33, .aload_n 0, 1, 0, []), (34, .getfield 10, 3, 0, []), (37, .aload_n 2, 1, 0, []), (38, .invokevirtual 434, 3, 0, []), (41, .aload_n 0, 1, 0, []), (42, .getfield 23, 3, 0, []), (45, .invokevirtual 124, 3, 0, []), (48, .aload_n 0, 1, 0, []), (49, .iconst 0, 1, 0, []), (50, .invokevirtual 118, 3, 0, []), (53, .ireturn, 1, 0, [])]
theorem zd_X11_back : ∀ q ∈ zc_X11_back, decode prog_1_method_48_code q.1 = .ok (q.2.1, q.2.2.1) := by decide +kernel
def zc_X11_count : List (Nat × ClassFile.Instr × Nat × Nat × List (Nat × Int × Nat)) := [(0, .iload_n 1, 1, 0, []), (1, .tableswitch 246 0 17 #[87, 95, 103, 111, 119, 127, 135, 142, 149, 156, 163, 170, 178, 189, 208, 219, 230, 238], 87, 0, []), (88, .aload_n 0, 1, 0, []), (89, .getfield 10, 3, 0, []), (92, .getfield 121, 3, 0, []), (95, .ireturn, 1, 0, []), (96, .aload_n 0, 1, 0, []), (97, .getfield 10, 3, 0, []), (100, .getfield 153, 3, 0, []), (103, .ireturn, 1, 0, []), (104, .aload_n 0, 1, 0, []), (105, .getfield 10, 3, 0, []), (108, .getfield 396, 3, 0, []), (111, .ireturn, 1, 0, []), (112, .aload_n 0, 1, 0, []), (113, .getfield 10, 3, 0, []), (116, .getfield 205, 3, 0, []), (119, .ireturn, 1, 0, []), (120, .aload_n 0, 1, 0, []), (121, .getfield 23, 3, 0, []), (124, .getfield 437, 3, 0, []), (127, .ireturn, 1, 0, []), (128, .aload_n 0, 1, 0, []), (129, .getfield 67, 3, 0, []), (132, .getfield 193, 3, 0, []), (135, .ireturn, 1, 0, []), (136, .aload_n 0, 1, 0, []), (137, .getfield 104, 3, 0, []), (140, .iconst 0, 1, 0, []), (141, .iaload, 1, 0, []), (142, .ireturn, 1, 0, []), (143, .aload_n 0, 1, 0, []), (144, .getfield 104, 3, 0, []), (147, .iconst 1, 1, 0, []), (148, .iaload, 1, 0, []), (149, .ireturn, 1, 0, []), (150, .aload_n 0, 1, 0, []), (151, .getfield 104, 3, 0, []), (154, .iconst 2, 1, 0, []), (155, .iaload, 1, 0, []), (156, .ireturn, 1, 0, []), (157, .aload_n 0, 1, 0, []), (158, .getfield 104, 3, 0, []), (161, .iconst 3, 1, 0, []), (162, .iaload, 1, 0, []), (163, .ireturn, 1, 0, []), (164, .aload_n 0, 1, 0, []), (165, .getfield 104, 3, 0, []), (168, .iconst 4, 1, 0, []), (169, .iaload, 1, 0, []), (170, .ireturn, 1, 0, []), (171, .aload_n 0, 1, 0, []), (172, .getfield 10, 3, 0, []), (175, .getfield 289, 3, 0, []), (178, .ireturn, 1, 0, []), (179, .aload_n 0, 1, 0, []), (180, .getfield 10, 3, 0, []), (183, .getfield 135, 3, 0, []), (186, .getfield 283, 3, 0, []), (189, .ireturn, 1, 0, []), (190, .aload_n 0, 1, 0, []), (191, .getfield 10, 3, 0, []), (194, .getfield 135, 3, 0, []), (197, .getfield 308, 3, 0, []), (200, .ifCond .eq 7, 3, 0, []), (203, .iconst 1, 1, 0, []), (204, .goto 4, 3, 0, []), (207, .iconst 0, 1, 0, []), (208, .ireturn, 1, 0, []), (209, .aload_n 0, 1, 0, []), (210, .getfield 10, 3, 0, []), (213, .getfield 135, 3, 0, []), (216, .getfield 280, 3, 0, []), (219, .ireturn, 1, 0, []), (220, .aload_n 0, 1, 0, []), (221, .getfield 10, 3, 0, []), (224, .getfield 135, 3, 0, []), (227, .getfield 178, 3, 0, []), (230, .ireturn, 1, 0, []), (231, .aload_n 0, 1, 0, []), (232, .getfield 10, 3, 0, []), (235, .getfield 180, 3, 0, []), (238, .ireturn, 1, 0, []), (239, .aload_n 0, 1, 0, []), (240, .getfield 10, 3, 0, []), (243, .getfield 183, 3, 0, []), (246, .ireturn, 1, 0, []), (247, .iconst (-1), 1, 0, []), (248, .ireturn, 1, 0, [])]
theorem zd_X11_count : ∀ q ∈ zc_X11_count, decode prog_1_method_49_code q.1 = .ok (q.2.1, q.2.2.1) := by decide +kernel
def zc_X11_status : List (Nat × ClassFile.Instr × Nat × Nat × List (Nat × Int × Nat)) := [(0, .aload_n 0, 1, 0, []), (1, .getfield 438, 3, 0, []), (4, .ireturn, 1, 0, [])]
theorem zd_X11_status : ∀ q ∈ zc_X11_status, decode prog_1_method_50_code q.1 = .ok (q.2.1, q.2.2.1) := by decide +kernel
def zc_X12_init : List (Nat × ClassFile.Instr × Nat × Nat × List (Nat × Int × Nat)) := [(0, .aload_n 0, 1, 0, []), (1, .invokespecial 1, 3, 0, []), (4, .aload_n 0, 1, 0, []), (5, .bipush 7, 2, 0, []), (7, .newarray .int, 2, 0, []), (9, .putfield 7, 3, 0, []), (12, .aload_n 0, 1, 0, []), (13, .sipush 5580, 3, 0, []), (16, .newarray .int, 2, 0, []), (18, .putfield 13, 3, 0, []), (21, .aload_n 0, 1, 0, []), (22, .sipush 11160, 3, 0, []), (25, .newarray .int, 2, 0, []), (27, .putfield 16, 3, 0, []), (30, .aload_n 0, 1, 0, []), (31, .iconst 2, 1, 0, []), (32, .newarray .boolean, 2, 0, []), (34, .putfield 19, 3, 0, []), (37, .aload_n 0, 1, 0, []), (38, .sipush 612, 3, 0, []), (41, .newarray .int, 2, 0, []), (43, .putfield 23, 3, 0, []), (46, .aload_n 0, 1, 0, []), (47, .bipush 16, 2, 0, []), (49, .newarray .int, 2, 0, []), (51, .putfield 26, 3, 0, []), (54, .aload_n 0, 1, 0, []), (55, .sipush 544, 3, 0, []), (58, .newarray .int, 2, 0, []), (60, .putfield 29, 3, 0, []), (63, .aload_n 0, 1, 0, []), (64, .bipush 16, 2, 0, []), (66, .newarray .int, 2, 0, []), (68, .putfield 32, 3, 0, []), (71, .aload_n 0, 1, 0, []), (72, .sipush 400, 3, 0, []), (75, .newarray .int, 2, 0, []), (77, .putfield 35, 3, 0, []), (80, .aload_n 0, 1, 0, []), (81, .iconst (-1), 1, 0, []), (82, .putfield 38, 3, 0, []), (85, .aload_n 0, 1, 0, []), (86, .bipush 96, 2, 0, []), (88, .newarray .int, 2, 0, []), (90, .putfield 42, 3, 0, []), (93, .aload_n 0, 1, 0, []), (94, .sipush 400, 3, 0, []), (97, .newarray .int, 2, 0, []), (99, .putfield 45, 3, 0, []), (102, .aload_n 0, 1, 0, []), (103, .sipush 400, 3, 0, []), (106, .newarray .int, 2, 0, []), (108, .putfield 48, 3, 0, []), (111, .aload_n 0, 1, 0, []), (112, .sipush 400, 3, 0, []), (115, .newarray .int, 2, 0, []), (117, .putfield 51, 3, 0, []), (120, .aload_n 0, 1, 0, []), (121, .sipush 400, 3, 0, []), (124, .newarray .int, 2, 0, []), (126, .putfield 54, 3, 0, []), (129, .aload_n 0, 1, 0, []), (130, .bipush 9, 2, 0, []), (132, .newarray .long, 2, 0, []), (134, .dup, 1, 0, []), (135, .iconst 0, 1, 0, []), (136, .ldc2_w 57, 3, 0, []), (139, .lastore, 1, 0, []), (140, .dup, 1, 0, []), (141, .iconst 1, 1, 0, []), (142, .ldc2_w 59, 3, 0, []), (145, .lastore, 1, 0, []), (146, .dup, 1, 0, []), (147, .iconst 2, 1, 0, []), (148, .ldc2_w 61, 3, 0, []), (151, .lastore, 1, 0, []), (152, .dup, 1, 0, []), (153, .iconst 3, 1, 0, []), (154, .ldc2_w 63, 3, 0, []), (157, .lastore, 1, 0, []), (158, .dup, 1, 0, []), (159, .iconst 4, 1, 0, []), (160, .ldc2_w 65, 3, 0, []), (163, .lastore, 1, 0, []), (164, .dup, 1, 0, []), (165, .iconst 5, 1, 0, []), (166, .ldc2_w 67, 3, 0, []), (169, .lastore, 1, 0, []), (170, .dup, 1, 0, []), (171, .bipush 6, 2, 0, []), (173, .ldc2_w 69, 3, 0, []), (176, .lastore, 1, 0, []), (177, .dup, 1, 0, []), (178, .bipush 7, 2, 0, []), (180, .ldc2_w 71, 3, 0, []), (183, .lastore, 1, 0, []), (184, .dup, 1, 0, []), (185, .bipush 8, 2, 0, []), (187, .ldc2_w 73, 3, 0, []), (190, .lastore, 1, 0, []), (191, .putfield 75, 3, 0, []), (194, .aload_n 0, 1, 0, []), (195, .bipush 7, 2, 0, []), (197, .newarray .long, 2, 0, []), (199, .dup, 1, 0, []), (200, .iconst 0, 1, 0, []), (201, .ldc2_w 71, 3, 0, []), (204, .lastore, 1, 0, []), (205, .dup, 1, 0, []), (206, .iconst 1, 1, 0, []), (207, .ldc2_w 57, 3, 0, []), (210, .lastore, 1, 0, []), (211, .dup, 1, 0, []), (212, .iconst 2, 1, 0, []), (213, .ldc2_w 69, 3, 0, []), (216, .lastore, 1, 0, []), (217, .dup, 1, 0, []), (218, .iconst 3, 1, 0, []), (219, .ldc2_w 79, 3, 0, []), (222, .lastore, 1, 0, []), (223, .dup, 1, 0, []), (224, .iconst 4, 1, 0, []), (225, .ldc2_w 81, 3, 0, []), (228, .lastore, 1, 0, []), (229, .dup, 1, 0, []), (230, .iconst 5, 1, 0, []), (231, .ldc2_w 67, 3, 0, []), (234, .lastore, 1, 0, []), (235, .dup, 1, 0, []), (236, .bipush 6, 2, 0, []), (238, .ldc2_w 83, 3, 0, []), (241, .lastore, 1, 0, []), (242, .putfield 85, 3, 0, []), (245, .aload_n 0, 1, 0, []), (246, .iconst 5, 1, 0, []), (247, .newarray .long, 2, 0, []), (249, .dup, 1, 0, []), (250, .iconst 0, 1, 0, []), (251, .ldc2_w 88, 3, 0, []), (254, .lastore, 1, 0, []), (255, .dup, 1, 0, []), (256, .iconst 1, 1, 0, []), (257, .ldc2_w 90, 3, 0, []), (260, .lastore, 1, 0, []), (261, .dup, 1, 0, []), (262, .iconst 2, 1, 0, []), (263, .ldc2_w 92, 3, 0, []), (266, .lastore, 1, 0, []), (267, .dup, 1, 0, []), (268, .iconst 3, 1, 0, []), (269, .ldc2_w 94, 3, 0, []), (272, .lastore, 1, 0, []), (273, .dup, 1, 0, []), (274, .iconst 4, 1, 0, []), (275, .ldc2_w 96, 3, 0, []), (278, .lastore, 1, 0, []), (279, .putfield 98, 3, 0, []), (282, .aload_n 0, 1, 0, []), (283, .bipush 13, 2, 0, []), (285, .newarray .long, 2, 0, []), (287, .putfield 101, 3, 0, []), (290, .aload_n 0, 1, 0, []), (291, .bipush 13, 2, 0, []), (293, .newarray .long, 2, 0, []), (295, .putfield 104, 3, 0, []), (298, .aload_n 0, 1, 0, []), (299, .sipush 400, 3, 0, []), (302, .newarray .long, 2, 0, []), (304, .putfield 107, 3, 0, []), (307, .aload_n 0, 1, 0, []), (308, .bipush 24, 2, 0, []), (310, .newarray .int, 2, 0, []), (312, .putfield 110, 3, 0, []), (315, .aload_n 0, 1, 0, []), (316, .sipush 144, 3, 0, []), (319, .newarray .int, 2, 0, []), (321, .putfield 113, 3, 0, []), (324, .aload_n 0, 1, 0, []), (325, .sipush 240, 3, 0, []), (328, .newarray .int, 2, 0, []), (330, .putfield 116, 3, 0, []), (333, .aload_n 0, 1, 0, []), (334, .bipush 10, 2, 0, []), (336, .newarray .int, 2, 0, []), (338, .putfield 119, 3, 0, []), (341, .aload_n 0, 1, 0, []), (342, .bipush 10, 2, 0, []), (344, .newarray .int, 2, 0, []), (346, .putfield 122, 3, 0, []), (349, .aload_n 0, 1, 0, []), (350, .bipush 10, 2, 0, []), (352, .newarray .boolean, 2, 0, []), (354, .putfield 125, 3, 0, []), (357, .aload_n 0, 1, 0, []), (358, .iconst (-1), 1, 0, []), (359, .putfield 128, 3, 0, []), (362, .aload_n 0, 1, 0, []), (363, .bipush 7, 2, 0, []), (365, .newarray .int, 2, 0, []), (367, .putfield 131, 3, 0, []), (370, .aload_n 0, 1, 0, []), (371, .bipush 10, 2, 0, []), (373, .newarray .int, 2, 0, []), (375, .putfield 134, 3, 0, []), (378, .aload_n 0, 1, 0, []), (379, .bipush 7, 2, 0, []), (381, .newarray .int, 2, 0, []), (383, .putfield 137, 3, 0, []), (386, .aload_n 0, 1, 0, []), (387, .bipush 7, 2, 0, []), (389, .newarray .int, 2, 0, []), (391, .putfield 140, 3, 0, []), (394, .aload_n 0, 1, 0, []), (395, .bipush 64, 2, 0, []), (397, .newarray .int, 2, 0, []), (399, .putfield 143, 3, 0, []), (402, .aload_n 0, 1, 0, []), (403, .bipush 16, 2, 0, []), (405, .newarray .int, 2, 0, []), (407, .putfield 146, 3, 0, []), (410, .aload_n 0, 1, 0, []), (411, .bipush 96, 2, 0, []), (413, .newarray .int, 2, 0, []), (415, .putfield 149, 3, 0, []), (418, .aload_n 0, 1, 0, []), (419, .iconst (-1), 1, 0, []), (420, .putfield 152, 3, 0, []), (423, .aload_n 0, 1, 0, []), (424, .bipush 14, 2, 0, []), (426, .newarray .int, 2, 0, []), (428, .putfield 155, 3, 0, []), (431, .aload_n 0, 1, 0, []), (432, .iconst (-1), 1, 0, []), (433, .putfield 158, 3, 0, []), (436, .aload_n 0, 1, 0, []), (437, .getfield 13, 3, 0, []), (440, .iconst 4, 1, 0, []), (441, .iconst (-1), 1, 0, []), (442, .iastore, 1, 0, []), (443, .aload_n 0, 1, 0, []), (444, .getfield 13, 3, 0, []), (447, .bipush 6, 2, 0, []), (449, .bipush 7, 2, 0, []), (451, .iastore, 1, 0, []), (452, .aload_n 0, 1, 0, []), (453, .getfield 13, 3, 0, []), (456, .bipush 8, 2, 0, []), (458, .sipush 1000, 3, 0, []), (461, .iastore, 1, 0, []), (462, .aload_n 0, 1, 0, []), (463, .getfield 13, 3, 0, []), (466, .bipush 10, 2, 0, []), (468, .iconst (-1), 1, 0, []), (469, .iastore, 1, 0, []), (470, .return_, 1, 0, [])]
theorem zd_X12_init : ∀ q ∈ zc_X12_init, decode prog_14_method_1_code q.1 = .ok (q.2.1, q.2.2.1) := by decide +kernel
def zc_X12_undo : List (Nat × ClassFile.Instr × Nat × Nat × List (Nat × Int × Nat)) := [(0, .aload_n 0, 1, 0, []), (1, .iconst 0, 1, 0, []), (2, .putfield 161, 3, 0, []), (5, .aload_n 0, 1, 0, []), (6, .getfield 167, 3, 0, []), (9, .ifCond .ne 10, 3, 0, []), (12, .aload_n 0, 1, 0, []), (13, .bipush (-3), 2, 0, []), (15, .invokevirtual 170, 3, 0, []), (18, .ireturn, 1, 0, []), (19, .aload_n 0, 1, 0, []), (20, .dup, 1, 0, []), (21, .getfield 167, 3, 0, []), (24, .iconst 1, 1, 0, []), (25, .isub, 1, 0, []), (26, .putfield 167, 3, 0, []), (29, .aload_n 0, 1, 0, []), (30, .aload_n 0, 1, 0, []), (31, .getfield 167, 3, 0, []), (34, .invokevirtual 178, 3, 0, []), (37, .aload_n 0, 1, 0, []), (38, .aload_n 0, 1, 0, []), (39, .getfield 26, 3, 0, []), (42, .aload_n 0, 1, 0, []), (43, .getfield 167, 3, 0, []), (46, .iaload, 1, 0, []), (47, .invokevirtual 170, 3, 0, []), (50, .ireturn, 1, 0, [])]
theorem zd_X12_undo : ∀ q ∈ zc_X12_undo, decode prog_14_method_13_code q.1 = .ok (q.2.1, q.2.2.1) := by decide +kernel
def zc_X12_tell : List (Nat × ClassFile.Instr × Nat × Nat × List (Nat × Int × Nat)) := [(0, .aload_n 0, 1, 0, []), (1, .iload_n 1, 1, 0, []), (2, .ifCond .ge 7, 3, 0, []), (5, .iload_n 1, 1, 0, []), (6, .goto 4, 3, 0, []), (9, .iconst 0, 1, 0, []), (10, .putfield 164, 3, 0, []), (13, .iload_n 1, 1, 0, []), (14, .ifCond .ge 14, 3, 0, []), (17, .aload_n 0, 1, 0, []), (18, .getfield 7, 3, 0, []), (21, .iload_n 1, 1, 0, []), (22, .ineg, 1, 0, []), (23, .dup2, 1, 0, []), (24, .iaload, 1, 0, []), (25, .iconst 1, 1, 0, []), (26, .iadd, 1, 0, []), (27, .iastore, 1, 0, []), (28, .iload_n 1, 1, 0, []), (29, .ireturn, 1, 0, [])]
theorem zd_X12_tell : ∀ q ∈ zc_X12_tell, decode prog_14_method_7_code q.1 = .ok (q.2.1, q.2.2.1) := by decide +kernel
def zc_X12_putBack : List (Nat × ClassFile.Instr × Nat × Nat × List (Nat × Int × Nat)) := [(0, .iconst 0, 1, 0, []), (1, .istore_n 2, 1, 0, []), (2, .iload_n 2, 1, 0, []), (3, .bipush 34, 2, 0, []), (5, .if_icmp .ge 28, 3, 0, []), (8, .aload_n 0, 1, 0, []), (9, .getfield 13, 3, 0, []), (12, .iconst 5, 1, 0, []), (13, .iload_n 2, 1, 0, []), (14, .iadd, 1, 0, []), (15, .aload_n 0, 1, 0, []), (16, .getfield 23, 3, 0, []), (19, .bipush 34, 2, 0, []), (21, .iload_n 1, 1, 0, []), (22, .imul, 1, 0, []), (23, .iload_n 2, 1, 0, []), (24, .iadd, 1, 0, []), (25, .iaload, 1, 0, []), (26, .iastore, 1, 0, []), (27, .iinc 2 1, 3, 0, []), (30, .goto (-28), 3, 0, []), (33, .return_, 1, 0, [])]
theorem zd_X12_putBack : ∀ q ∈ zc_X12_putBack, decode prog_14_method_11_code q.1 = .ok (q.2.1, q.2.2.1) := by decide +kernel
def zc_X12_image : List (Nat × ClassFile.Instr × Nat × Nat × List (Nat × Int × Nat)) := [(0, .aload_n 0, 1, 0, []), (1, .iconst 0, 1, 0, []), (2, .putfield 161, 3, 0, []), (5, .iload_n 1, 1, 0, []), (6, .i2l, 1, 0, []), (7, .lconst 0, 1, 0, []), (8, .lconst 1, 1, 0, []), (9, .invokestatic 181, 3, 0, []), (12, .ifCond .ne 9, 3, 0, []), (15, .aload_n 0, 1, 0, []), (16, .iconst (-1), 1, 0, []), (17, .invokevirtual 170, 3, 0, []), (20, .ireturn, 1, 0, []), (21, .iconst 0, 1, 0, []), (22, .istore_n 2, 1, 0, []), (23, .iload_n 2, 1, 0, []), (24, .sipush 5580, 3, 0, []), (27, .if_icmp .ge 27, 3, 0, []), (30, .aload_n 0, 1, 0, []), (31, .getfield 16, 3, 0, []), (34, .sipush 5580, 3, 0, []), (37, .iload_n 1, 1, 0, []), (38, .imul, 1, 0, []), (39, .iload_n 2, 1, 0, []), (40, .iadd, 1, 0, []), (41, .aload_n 0, 1, 0, []), (42, .getfield 13, 3, 0, []), (45, .iload_n 2, 1, 0, []), (46, .iaload, 1, 0, []), (47, .iastore, 1, 0, []), (48, .iinc 2 1, 3, 0, []), (51, .goto (-28), 3, 0, []), (54, .aload_n 0, 1, 0, []), (55, .getfield 19, 3, 0, []), (58, .iload_n 1, 1, 0, []), (59, .iconst 1, 1, 0, []), (60, .bastore, 1, 0, []), (61, .aload_n 0, 1, 0, []), (62, .iconst 0, 1, 0, []), (63, .invokevirtual 170, 3, 0, []), (66, .ireturn, 1, 0, [])]
theorem zd_X12_image : ∀ q ∈ zc_X12_image, decode prog_14_method_14_code q.1 = .ok (q.2.1, q.2.2.1) := by decide +kernel
def zc_X12_in : List (Nat × ClassFile.Instr × Nat × Nat × List (Nat × Int × Nat)) := [(0, .lload_n 0, 1, 0, []), (1, .lload_n 2, 1, 0, []), (2, .lcmp, 1, 0, []), (3, .ifCond .lt 14, 3, 0, []), (6, .lload_n 0, 1, 0, []), (7, .lload 4, 2, 0, []), (9, .lcmp, 1, 0, []), (10, .ifCond .gt 7, 3, 0, []), (13, .iconst 1, 1, 0, []), (14, .goto 4, 3, 0, []), (17, .iconst 0, 1, 0, []), (18, .ireturn, 1, 0, [])]
theorem zd_X12_in : ∀ q ∈ zc_X12_in, decode prog_14_method_3_code q.1 = .ok (q.2.1, q.2.2.1) := by decide +kernel
def zc_X12_back : List (Nat × ClassFile.Instr × Nat × Nat × List (Nat × Int × Nat)) := [(0, .aload_n 0, 1, 0, []), (1, .iconst 0, 1, 0, []), (2, .putfield 161, 3, 0, []), (5, .iload_n 1, 1, 0, []), (6, .i2l, 1, 0, []), (7, .lconst 0, 1, 0, []), (8, .lconst 1, 1, 0, []), (9, .invokestatic 181, 3, 0, []), (12, .ifCond .ne 9, 3, 0, []), (15, .aload_n 0, 1, 0, []), (16, .iconst (-1), 1, 0, []), (17, .invokevirtual 170, 3, 0, []), (20, .ireturn, 1, 0, []), (21, .aload_n 0, 1, 0, []), (22, .getfield 19, 3, 0, []), (25, .iload_n 1, 1, 0, []), (26, .baload, 1, 0, []), (27, .ifCond .ne 10, 3, 0, []), (30, .aload_n 0, 1, 0, []), (31, .bipush (-2), 2, 0, []), (33, .invokevirtual 170, 3, 0, []), (36, .ireturn, 1, 0, []), (37, .iconst 0, 1, 0, []), (38, .istore_n 2, 1, 0, []), (39, .iload_n 2, 1, 0, []), (40, .sipush 5580, 3, 0, []), (43, .if_icmp .ge 27, 3, 0, []), (46, .aload_n 0, 1, 0, []), (47, .getfield 13, 3, 0, []), (50, .iload_n 2, 1, 0, []), (51, .aload_n 0, 1, 0, []), (52, .getfield 16, 3, 0, []), (55, .sipush 5580, 3, 0, []), (58, .iload_n 1, 1, 0, []), (59, .imul, 1, 0, []), (60, .iload_n 2, 1, 0, []), (61, .iadd, 1, 0, []), (62, .iaload, 1, 0, []), (63, .iastore, 1, 0, []), (64, .iinc 2 1, 3, 0, []), (67, .goto (-28), 3, 0, []), (70, .aload_n 0, 1, 0, []), (71, .iconst 0, 1, 0, []), (72, .invokevirtual 185, 3, 0, []), (75, .ireturn, 1, 0, [])]
theorem zd_X12_back : ∀ q ∈ zc_X12_back, decode prog_14_method_15_code q.1 = .ok (q.2.1, q.2.2.1) := by decide +kernel
def zc_X12_settled : List (Nat × ClassFile.Instr × Nat × Nat × List (Nat × Int × Nat)) := [(0, .aload_n 0, 1, 0, []), (1, .iload_n 1, 1, 0, []), (2, .ifCond .ge 10, 3, 0, []), (5, .aload_n 0, 1, 0, []), (6, .getfield 167, 3, 0, []), (9, .goto 4, 3, 0, []), (12, .iconst 0, 1, 0, []), (13, .putfield 167, 3, 0, []), (16, .aload_n 0, 1, 0, []), (17, .iload_n 1, 1, 0, []), (18, .invokevirtual 170, 3, 0, []), (21, .ireturn, 1, 0, [])]
theorem zd_X12_settled : ∀ q ∈ zc_X12_settled, decode prog_14_method_9_code q.1 = .ok (q.2.1, q.2.2.1) := by decide +kernel
def zc_X12_road : List (Nat × ClassFile.Instr × Nat × Nat × List (Nat × Int × Nat)) := [(0, .aload_n 0, 1, 0, []), (1, .iconst 0, 1, 0, []), (2, .putfield 161, 3, 0, []), (5, .iload_n 1, 1, 0, []), (6, .i2l, 1, 0, []), (7, .lconst 0, 1, 0, []), (8, .ldc2_w 192, 3, 0, []), (11, .invokestatic 181, 3, 0, []), (14, .ifCond .eq 32, 3, 0, []), (17, .iload_n 2, 1, 0, []), (18, .i2l, 1, 0, []), (19, .lconst 0, 1, 0, []), (20, .ldc2_w 192, 3, 0, []), (23, .invokestatic 181, 3, 0, []), (26, .ifCond .eq 20, 3, 0, []), (29, .iload_n 1, 1, 0, []), (30, .iload_n 2, 1, 0, []), (31, .if_icmp .eq 15, 3, 0, []), (34, .iload_n 3, 1, 0, []), (35, .i2l, 1, 0, []), (36, .lconst 0, 1, 0, []), (37, .ldc2_w 194, 3, 0, []), (40, .invokestatic 181, 3, 0, []), (43, .ifCond .ne 9, 3, 0, []), (46, .aload_n 0, 1, 0, []), (47, .iconst (-1), 1, 0, []), (48, .invokevirtual 170, 3, 0, []), (51, .ireturn, 1, 0, []), (52, .aload_n 0, 1, 0, []), (53, .getfield 13, 3, 0, []), (56, .bipush 89, 2, 0, []), (58, .bipush 8, 2, 0, []), (60, .iload_n 2, 1, 0, []), (61, .imul, 1, 0, []), (62, .iadd, 1, 0, []), (63, .iload_n 1, 1, 0, []), (64, .iadd, 1, 0, []), (65, .iload_n 3, 1, 0, []), (66, .iastore, 1, 0, []), (67, .aload_n 0, 1, 0, []), (68, .bipush 89, 2, 0, []), (70, .bipush 8, 2, 0, []), (72, .iload_n 1, 1, 0, []), (73, .imul, 1, 0, []), (74, .iadd, 1, 0, []), (75, .iload_n 2, 1, 0, []), (76, .iadd, 1, 0, []), (77, .iload_n 3, 1, 0, []), (78, .invokevirtual 196, 3, 0, []), (81, .ireturn, 1, 0, [])]
theorem zd_X12_road : ∀ q ∈ zc_X12_road, decode prog_14_method_22_code q.1 = .ok (q.2.1, q.2.2.1) := by decide +kernel
def zc_X12_change : List (Nat × ClassFile.Instr × Nat × Nat × List (Nat × Int × Nat)) := [(0, .aload_n 0, 1, 0, []), (1, .getfield 13, 3, 0, []), (4, .iload_n 1, 1, 0, []), (5, .iaload, 1, 0, []), (6, .istore_n 3, 1, 0, []), (7, .aload_n 0, 1, 0, []), (8, .getfield 13, 3, 0, []), (11, .iload_n 1, 1, 0, []), (12, .iload_n 2, 1, 0, []), (13, .iastore, 1, 0, []), (14, .aload_n 0, 1, 0, []), (15, .iconst 0, 1, 0, []), (16, .putfield 164, 3, 0, []), (19, .iload_n 3, 1, 0, []), (20, .ireturn, 1, 0, [])]
theorem zd_X12_change : ∀ q ∈ zc_X12_change, decode prog_14_method_8_code q.1 = .ok (q.2.1, q.2.2.1) := by decide +kernel
def zc_X12_person : List (Nat × ClassFile.Instr × Nat × Nat × List (Nat × Int × Nat)) := [(0, .aload_n 0, 1, 0, []), (1, .iconst 0, 1, 0, []), (2, .putfield 161, 3, 0, []), (5, .iload_n 1, 1, 0, []), (6, .i2l, 1, 0, []), (7, .lconst 0, 1, 0, []), (8, .ldc2_w 199, 3, 0, []), (11, .invokestatic 181, 3, 0, []), (14, .ifCond .eq 15, 3, 0, []), (17, .iload_n 2, 1, 0, []), (18, .i2l, 1, 0, []), (19, .lconst 0, 1, 0, []), (20, .ldc2_w 192, 3, 0, []), (23, .invokestatic 181, 3, 0, []), (26, .ifCond .ne 9, 3, 0, []), (29, .aload_n 0, 1, 0, []), (30, .iconst (-1), 1, 0, []), (31, .invokevirtual 170, 3, 0, []), (34, .ireturn, 1, 0, []), (35, .aload_n 0, 1, 0, []), (36, .getfield 13, 3, 0, []), (39, .iconst 0, 1, 0, []), (40, .iaload, 1, 0, []), (41, .istore_n 3, 1, 0, []), (42, .iload_n 3, 1, 0, []), (43, .bipush 6, 2, 0, []), (45, .if_icmp .ne 10, 3, 0, []), (48, .aload_n 0, 1, 0, []), (49, .bipush (-5), 2, 0, []), (51, .invokevirtual 170, 3, 0, []), (54, .ireturn, 1, 0, []), (55, .aload_n 0, 1, 0, []), (56, .getfield 13, 3, 0, []), (59, .bipush 11, 2, 0, []), (61, .iconst 3, 1, 0, []), (62, .iload_n 3, 1, 0, []), (63, .imul, 1, 0, []), (64, .iadd, 1, 0, []), (65, .iload_n 1, 1, 0, []), (66, .iastore, 1, 0, []), (67, .aload_n 0, 1, 0, []), (68, .getfield 13, 3, 0, []), (71, .bipush 11, 2, 0, []), (73, .iconst 3, 1, 0, []), (74, .iload_n 3, 1, 0, []), (75, .imul, 1, 0, []), (76, .iadd, 1, 0, []), (77, .iconst 1, 1, 0, []), (78, .iadd, 1, 0, []), (79, .iload_n 2, 1, 0, []), (80, .iastore, 1, 0, []), (81, .aload_n 0, 1, 0, []), (82, .getfield 13, 3, 0, []), (85, .bipush 11, 2, 0, []), (87, .iconst 3, 1, 0, []), (88, .iload_n 3, 1, 0, []), (89, .imul, 1, 0, []), (90, .iadd, 1, 0, []), (91, .iconst 2, 1, 0, []), (92, .iadd, 1, 0, []), (93, .iconst 0, 1, 0, []), (94, .iastore, 1, 0, []), (95, .aload_n 0, 1, 0, []), (96, .getfield 13, 3, 0, []), (99, .iconst 0, 1, 0, []), (100, .dup2, 1, 0, []), (101, .iaload, 1, 0, []), (102, .iconst 1, 1, 0, []), (103, .iadd, 1, 0, []), (104, .iastore, 1, 0, []), (105, .aload_n 0, 1, 0, []), (106, .iload_n 3, 1, 0, []), (107, .invokevirtual 185, 3, 0, []), (110, .ireturn, 1, 0, [])]
theorem zd_X12_person : ∀ q ∈ zc_X12_person, decode prog_14_method_23_code q.1 = .ok (q.2.1, q.2.2.1) := by decide +kernel
def zc_X12_oil : List (Nat × ClassFile.Instr × Nat × Nat × List (Nat × Int × Nat)) := [(0, .aload_n 0, 1, 0, []), (1, .iconst 0, 1, 0, []), (2, .putfield 161, 3, 0, []), (5, .iload_n 2, 1, 0, []), (6, .i2l, 1, 0, []), (7, .lconst 0, 1, 0, []), (8, .ldc2_w 199, 3, 0, []), (11, .invokestatic 181, 3, 0, []), (14, .ifCond .ne 9, 3, 0, []), (17, .aload_n 0, 1, 0, []), (18, .iconst (-1), 1, 0, []), (19, .invokevirtual 170, 3, 0, []), (22, .ireturn, 1, 0, []), (23, .aload_n 0, 1, 0, []), (24, .iload_n 1, 1, 0, []), (25, .invokevirtual 201, 3, 0, []), (28, .ifCond .ne 10, 3, 0, []), (31, .aload_n 0, 1, 0, []), (32, .bipush (-2), 2, 0, []), (34, .invokevirtual 170, 3, 0, []), (37, .ireturn, 1, 0, []), (38, .aload_n 0, 1, 0, []), (39, .iconst 0, 1, 0, []), (40, .putfield 167, 3, 0, []), (43, .aload_n 0, 1, 0, []), (44, .bipush 11, 2, 0, []), (46, .iconst 3, 1, 0, []), (47, .iload_n 1, 1, 0, []), (48, .imul, 1, 0, []), (49, .iadd, 1, 0, []), (50, .iconst 0, 1, 0, []), (51, .iadd, 1, 0, []), (52, .iload_n 2, 1, 0, []), (53, .invokevirtual 196, 3, 0, []), (56, .ireturn, 1, 0, [])]
theorem zd_X12_oil : ∀ q ∈ zc_X12_oil, decode prog_14_method_24_code q.1 = .ok (q.2.1, q.2.2.1) := by decide +kernel
def zc_X12_isPerson : List (Nat × ClassFile.Instr × Nat × Nat × List (Nat × Int × Nat)) := [(0, .iload_n 1, 1, 0, []), (1, .i2l, 1, 0, []), (2, .lconst 0, 1, 0, []), (3, .aload_n 0, 1, 0, []), (4, .getfield 13, 3, 0, []), (7, .iconst 0, 1, 0, []), (8, .iaload, 1, 0, []), (9, .i2l, 1, 0, []), (10, .lconst 1, 1, 0, []), (11, .lsub, 1, 0, []), (12, .invokestatic 181, 3, 0, []), (15, .ireturn, 1, 0, [])]
theorem zd_X12_isPerson : ∀ q ∈ zc_X12_isPerson, decode prog_14_method_19_code q.1 = .ok (q.2.1, q.2.2.1) := by decide +kernel
def zc_X12_of : List (Nat × ClassFile.Instr × Nat × Nat × List (Nat × Int × Nat)) := [(0, .aload_n 0, 1, 0, []), (1, .iconst 0, 1, 0, []), (2, .putfield 161, 3, 0, []), (5, .aload_n 0, 1, 0, []), (6, .iload_n 1, 1, 0, []), (7, .invokevirtual 201, 3, 0, []), (10, .ifCond .eq 15, 3, 0, []), (13, .iload_n 2, 1, 0, []), (14, .i2l, 1, 0, []), (15, .lconst 0, 1, 0, []), (16, .ldc2_w 205, 3, 0, []), (19, .invokestatic 181, 3, 0, []), (22, .ifCond .ne 5, 3, 0, []), (25, .iconst (-1), 1, 0, []), (26, .ireturn, 1, 0, []), (27, .iload_n 2, 1, 0, []), (28, .iconst 3, 1, 0, []), (29, .if_icmp .ge 10, 3, 0, []), (32, .aload_n 0, 1, 0, []), (33, .iload_n 1, 1, 0, []), (34, .iload_n 2, 1, 0, []), (35, .invokevirtual 207, 3, 0, []), (38, .ireturn, 1, 0, []), (39, .iconst 0, 1, 0, []), (40, .istore_n 3, 1, 0, []), (41, .iconst 0, 1, 0, []), (42, .istore 4, 2, 0, []), (44, .iload 4, 2, 0, []), (46, .aload_n 0, 1, 0, []), (47, .getfield 13, 3, 0, []), (50, .iconst 1, 1, 0, []), (51, .iaload, 1, 0, []), (52, .if_icmp .ge 37, 3, 0, []), (55, .iload_n 3, 1, 0, []), (56, .aload_n 0, 1, 0, []), (57, .iload 4, 2, 0, []), (59, .iconst 0, 1, 0, []), (60, .invokevirtual 188, 3, 0, []), (63, .iload_n 1, 1, 0, []), (64, .if_icmp .ne 16, 3, 0, []), (67, .aload_n 0, 1, 0, []), (68, .iload 4, 2, 0, []), (70, .invokevirtual 210, 3, 0, []), (73, .ifCond .ne 7, 3, 0, []), (76, .iconst 1, 1, 0, []), (77, .goto 4, 3, 0, []), (80, .iconst 0, 1, 0, []), (81, .iadd, 1, 0, []), (82, .istore_n 3, 1, 0, []), (83, .iinc 4 1, 3, 0, []), (86, .goto (-42), 3, 0, []), (89, .iload_n 3, 1, 0, []), (90, .ireturn, 1, 0, [])]
theorem zd_X12_of : ∀ q ∈ zc_X12_of, decode prog_14_method_25_code q.1 = .ok (q.2.1, q.2.2.1) := by decide +kernel
def zc_X12_ofPerson : List (Nat × ClassFile.Instr × Nat × Nat × List (Nat × Int × Nat)) := [(0, .aload_n 0, 1, 0, []), (1, .getfield 13, 3, 0, []), (4, .bipush 11, 2, 0, []), (6, .iconst 3, 1, 0, []), (7, .iload_n 1, 1, 0, []), (8, .imul, 1, 0, []), (9, .iadd, 1, 0, []), (10, .iload_n 2, 1, 0, []), (11, .iadd, 1, 0, []), (12, .iaload, 1, 0, []), (13, .ireturn, 1, 0, [])]
theorem zd_X12_ofPerson : ∀ q ∈ zc_X12_ofPerson, decode prog_14_method_17_code q.1 = .ok (q.2.1, q.2.2.1) := by decide +kernel
def zc_X12_ofWork : List (Nat × ClassFile.Instr × Nat × Nat × List (Nat × Int × Nat)) := [(0, .aload_n 0, 1, 0, []), (1, .getfield 13, 3, 0, []), (4, .bipush 39, 2, 0, []), (6, .iconst 5, 1, 0, []), (7, .iload_n 1, 1, 0, []), (8, .imul, 1, 0, []), (9, .iadd, 1, 0, []), (10, .iload_n 2, 1, 0, []), (11, .iadd, 1, 0, []), (12, .iaload, 1, 0, []), (13, .ireturn, 1, 0, [])]
theorem zd_X12_ofWork : ∀ q ∈ zc_X12_ofWork, decode prog_14_method_18_code q.1 = .ok (q.2.1, q.2.2.1) := by decide +kernel
def zc_X12_isOver : List (Nat × ClassFile.Instr × Nat × Nat × List (Nat × Int × Nat)) := [(0, .aload_n 0, 1, 0, []), (1, .getfield 13, 3, 0, []), (4, .bipush 29, 2, 0, []), (6, .iload_n 1, 1, 0, []), (7, .iadd, 1, 0, []), (8, .iaload, 1, 0, []), (9, .aload_n 0, 1, 0, []), (10, .iload_n 1, 1, 0, []), (11, .iconst 1, 1, 0, []), (12, .invokevirtual 188, 3, 0, []), (15, .if_icmp .ne 7, 3, 0, []), (18, .iconst 1, 1, 0, []), (19, .goto 4, 3, 0, []), (22, .iconst 0, 1, 0, []), (23, .ireturn, 1, 0, [])]
theorem zd_X12_isOver : ∀ q ∈ zc_X12_isOver, decode prog_14_method_21_code q.1 = .ok (q.2.1, q.2.2.1) := by decide +kernel
def zc_X12_work : List (Nat × ClassFile.Instr × Nat × Nat × List (Nat × Int × Nat)) := [(0, .aload_n 0, 1, 0, []), (1, .iconst 0, 1, 0, []), (2, .putfield 161, 3, 0, []), (5, .aload_n 0, 1, 0, []), (6, .aload_n 0, 1, 0, []), (7, .iload_n 1, 1, 0, []), (8, .iload_n 2, 1, 0, []), (9, .iload_n 3, 1, 0, []), (10, .iload 4, 2, 0, []), (12, .iload 5, 2, 0, []), (14, .invokevirtual 220, 3, 0, []), (17, .invokevirtual 185, 3, 0, []), (20, .ireturn, 1, 0, [])]
theorem zd_X12_work : ∀ q ∈ zc_X12_work, decode prog_14_method_27_code q.1 = .ok (q.2.1, q.2.2.1) := by decide +kernel
def zc_X12_work1 : List (Nat × ClassFile.Instr × Nat × Nat × List (Nat × Int × Nat)) := [(0, .iload_n 2, 1, 0, []), (1, .i2l, 1, 0, []), (2, .lconst 1, 1, 0, []), (3, .ldc2_w 213, 3, 0, []), (6, .invokestatic 181, 3, 0, []), (9, .ifCond .eq 28, 3, 0, []), (12, .iload_n 3, 1, 0, []), (13, .i2l, 1, 0, []), (14, .lconst 0, 1, 0, []), (15, .ldc2_w 215, 3, 0, []), (18, .invokestatic 181, 3, 0, []), (21, .ifCond .eq 16, 3, 0, []), (24, .iload 4, 2, 0, []), (26, .i2l, 1, 0, []), (27, .lconst 1, 1, 0, []), (28, .ldc2_w 194, 3, 0, []), (31, .invokestatic 181, 3, 0, []), (34, .ifCond .ne 5, 3, 0, []), (37, .iconst (-1), 1, 0, []), (38, .ireturn, 1, 0, []), (39, .aload_n 0, 1, 0, []), (40, .iload_n 1, 1, 0, []), (41, .invokevirtual 201, 3, 0, []), (44, .ifCond .eq 18, 3, 0, []), (47, .iload 5, 2, 0, []), (49, .iconst (-1), 1, 0, []), (50, .if_icmp .eq 15, 3, 0, []), (53, .aload_n 0, 1, 0, []), (54, .iload 5, 2, 0, []), (56, .invokevirtual 217, 3, 0, []), (59, .ifCond .ne 6, 3, 0, []), (62, .bipush (-2), 2, 0, []), (64, .ireturn, 1, 0, []), (65, .aload_n 0, 1, 0, []), (66, .getfield 13, 3, 0, []), (69, .iconst 1, 1, 0, []), (70, .iaload, 1, 0, []), (71, .istore 6, 2, 0, []), (73, .iload 6, 2, 0, []), (75, .bipush 10, 2, 0, []), (77, .if_icmp .ne 6, 3, 0, []), (80, .bipush (-5), 2, 0, []), (82, .ireturn, 1, 0, []), (83, .bipush 39, 2, 0, []), (85, .iconst 5, 1, 0, []), (86, .iload 6, 2, 0, []), (88, .imul, 1, 0, []), (89, .iadd, 1, 0, []), (90, .istore 7, 2, 0, []), (92, .aload_n 0, 1, 0, []), (93, .getfield 13, 3, 0, []), (96, .iload 7, 2, 0, []), (98, .iload_n 1, 1, 0, []), (99, .iastore, 1, 0, []), (100, .aload_n 0, 1, 0, []), (101, .getfield 13, 3, 0, []), (104, .iload 7, 2, 0, []), (106, .iconst 1, 1, 0, []), (107, .iadd, 1, 0, []), (108, .iload_n 2, 1, 0, []), (109, .iastore, 1, 0, []), (110, .aload_n 0, 1, 0, []), (111, .getfield 13, 3, 0, []), (114, .iload 7, 2, 0, []), (116, .iconst 2, 1, 0, []), (117, .iadd, 1, 0, []), (118, .iload_n 3, 1, 0, []), (119, .iastore, 1, 0, []), (120, .aload_n 0, 1, 0, []), (121, .getfield 13, 3, 0, []), (124, .iload 7, 2, 0, []), (126, .iconst 3, 1, 0, []), (127, .iadd, 1, 0, []), (128, .iload 4, 2, 0, []), (130, .iastore, 1, 0, []), (131, .aload_n 0, 1, 0, []), (132, .getfield 13, 3, 0, []), (135, .iload 7, 2, 0, []), (137, .iconst 4, 1, 0, []), (138, .iadd, 1, 0, []), (139, .iload 5, 2, 0, []), (141, .iastore, 1, 0, []), (142, .aload_n 0, 1, 0, []), (143, .getfield 13, 3, 0, []), (146, .bipush 29, 2, 0, []), (148, .iload 6, 2, 0, []), (150, .iadd, 1, 0, []), (151, .iconst 0, 1, 0, []), (152, .iastore, 1, 0, []), (153, .aload_n 0, 1, 0, []), (154, .getfield 13, 3, 0, []), (157, .iconst 1, 1, 0, []), (158, .dup2, 1, 0, []), (159, .iaload, 1, 0, []), (160, .iconst 1, 1, 0, []), (161, .iadd, 1, 0, []), (162, .iastore, 1, 0, []), (163, .iload 6, 2, 0, []), (165, .ireturn, 1, 0, [])]
theorem zd_X12_work1 : ∀ q ∈ zc_X12_work1, decode prog_14_method_26_code q.1 = .ok (q.2.1, q.2.2.1) := by decide +kernel
def zc_X12_isWork : List (Nat × ClassFile.Instr × Nat × Nat × List (Nat × Int × Nat)) := [(0, .iload_n 1, 1, 0, []), (1, .i2l, 1, 0, []), (2, .lconst 0, 1, 0, []), (3, .aload_n 0, 1, 0, []), (4, .getfield 13, 3, 0, []), (7, .iconst 1, 1, 0, []), (8, .iaload, 1, 0, []), (9, .i2l, 1, 0, []), (10, .lconst 1, 1, 0, []), (11, .lsub, 1, 0, []), (12, .invokestatic 181, 3, 0, []), (15, .ireturn, 1, 0, [])]
theorem zd_X12_isWork : ∀ q ∈ zc_X12_isWork, decode prog_14_method_20_code q.1 = .ok (q.2.1, q.2.2.1) := by decide +kernel
def zc_X12_at : List (Nat × ClassFile.Instr × Nat × Nat × List (Nat × Int × Nat)) := [(0, .aload_n 0, 1, 0, []), (1, .iconst 0, 1, 0, []), (2, .putfield 161, 3, 0, []), (5, .aload_n 0, 1, 0, []), (6, .iload_n 1, 1, 0, []), (7, .invokevirtual 217, 3, 0, []), (10, .ifCond .eq 15, 3, 0, []), (13, .iload_n 2, 1, 0, []), (14, .i2l, 1, 0, []), (15, .lconst 0, 1, 0, []), (16, .ldc2_w 224, 3, 0, []), (19, .invokestatic 181, 3, 0, []), (22, .ifCond .ne 5, 3, 0, []), (25, .iconst (-1), 1, 0, []), (26, .ireturn, 1, 0, []), (27, .iload_n 2, 1, 0, []), (28, .iconst 5, 1, 0, []), (29, .if_icmp .ne 15, 3, 0, []), (32, .aload_n 0, 1, 0, []), (33, .getfield 13, 3, 0, []), (36, .bipush 29, 2, 0, []), (38, .iload_n 1, 1, 0, []), (39, .iadd, 1, 0, []), (40, .iaload, 1, 0, []), (41, .goto 9, 3, 0, []), (44, .aload_n 0, 1, 0, []), (45, .iload_n 1, 1, 0, []), (46, .iload_n 2, 1, 0, []), (47, .invokevirtual 188, 3, 0, []), (50, .ireturn, 1, 0, [])]
theorem zd_X12_at : ∀ q ∈ zc_X12_at, decode prog_14_method_28_code q.1 = .ok (q.2.1, q.2.2.1) := by decide +kernel
def zc_X12_terms : List (Nat × ClassFile.Instr × Nat × Nat × List (Nat × Int × Nat)) := [(0, .aload_n 0, 1, 0, []), (1, .iconst 0, 1, 0, []), (2, .putfield 161, 3, 0, []), (5, .iload_n 1, 1, 0, []), (6, .ifCond .ne 15, 3, 0, []), (9, .iload_n 2, 1, 0, []), (10, .i2l, 1, 0, []), (11, .lconst 0, 1, 0, []), (12, .ldc2_w 226, 3, 0, []), (15, .invokestatic 181, 3, 0, []), (18, .goto 42, 3, 0, []), (21, .iload_n 1, 1, 0, []), (22, .iconst 1, 1, 0, []), (23, .if_icmp .ne 15, 3, 0, []), (26, .iload_n 2, 1, 0, []), (27, .i2l, 1, 0, []), (28, .lconst 1, 1, 0, []), (29, .ldc2_w 199, 3, 0, []), (32, .invokestatic 181, 3, 0, []), (35, .goto 25, 3, 0, []), (38, .iload_n 1, 1, 0, []), (39, .iconst 2, 1, 0, []), (40, .if_icmp .ne 19, 3, 0, []), (43, .iload_n 2, 1, 0, []), (44, .i2l, 1, 0, []), (45, .lconst 0, 1, 0, []), (46, .ldc2_w 199, 3, 0, []), (49, .invokestatic 181, 3, 0, []), (52, .ifCond .eq 7, 3, 0, []), (55, .iconst 1, 1, 0, []), (56, .goto 4, 3, 0, []), (59, .iconst 0, 1, 0, []), (60, .istore_n 3, 1, 0, []), (61, .iload_n 3, 1, 0, []), (62, .ifCond .ne 9, 3, 0, []), (65, .aload_n 0, 1, 0, []), (66, .iconst (-1), 1, 0, []), (67, .invokevirtual 170, 3, 0, []), (70, .ireturn, 1, 0, []), (71, .aload_n 0, 1, 0, []), (72, .iconst 0, 1, 0, []), (73, .putfield 167, 3, 0, []), (76, .aload_n 0, 1, 0, []), (77, .iconst 5, 1, 0, []), (78, .iload_n 1, 1, 0, []), (79, .iadd, 1, 0, []), (80, .iload_n 2, 1, 0, []), (81, .invokevirtual 196, 3, 0, []), (84, .ireturn, 1, 0, [])]
theorem zd_X12_terms : ∀ q ∈ zc_X12_terms, decode prog_14_method_29_code q.1 = .ok (q.2.1, q.2.2.1) := by decide +kernel
def zc_X12_row : List (Nat × ClassFile.Instr × Nat × Nat × List (Nat × Int × Nat)) := [(0, .aload_n 0, 1, 0, []), (1, .iconst 0, 1, 0, []), (2, .putfield 161, 3, 0, []), (5, .aload_n 0, 1, 0, []), (6, .getfield 228, 3, 0, []), (9, .istore_n 1, 1, 0, []), (10, .aload_n 0, 1, 0, []), (11, .iconst 0, 1, 0, []), (12, .putfield 228, 3, 0, []), (15, .iload_n 1, 1, 0, []), (16, .ifCond .ne 10, 3, 0, []), (19, .aload_n 0, 1, 0, []), (20, .bipush (-6), 2, 0, []), (22, .invokevirtual 170, 3, 0, []), (25, .ireturn, 1, 0, []), (26, .aload_n 0, 1, 0, []), (27, .iconst 0, 1, 0, []), (28, .putfield 231, 3, 0, []), (31, .iconst 0, 1, 0, []), (32, .istore_n 2, 1, 0, []), (33, .iconst 0, 1, 0, []), (34, .istore_n 3, 1, 0, []), (35, .iload_n 3, 1, 0, []), (36, .iload_n 1, 1, 0, []), (37, .if_icmp .ge 70, 3, 0, []), (40, .iload_n 3, 1, 0, []), (41, .iconst 3, 1, 0, []), (42, .iadd, 1, 0, []), (43, .iload_n 1, 1, 0, []), (44, .if_icmp .ge 47, 3, 0, []), (47, .aload_n 0, 1, 0, []), (48, .aload_n 0, 1, 0, []), (49, .getfield 35, 3, 0, []), (52, .iload_n 3, 1, 0, []), (53, .iaload, 1, 0, []), (54, .aload_n 0, 1, 0, []), (55, .getfield 35, 3, 0, []), (58, .iload_n 3, 1, 0, []), (59, .iconst 1, 1, 0, []), (60, .iadd, 1, 0, []), (61, .iaload, 1, 0, []), (62, .aload_n 0, 1, 0, []), (63, .getfield 35, 3, 0, []), (66, .iload_n 3, 1, 0, []), (67, .iconst 2, 1, 0, []), (68, .iadd, 1, 0, []), (69, .iaload, 1, 0, []), (70, .aload_n 0, 1, 0, []), (71, .getfield 35, 3, 0, []), (74, .iload_n 3, 1, 0, []), (75, .iconst 3, 1, 0, []), (76, .iadd, 1, 0, []), (77, .iaload, 1, 0, []), (78, .iconst (-1), 1, 0, []), (79, .invokevirtual 220, 3, 0, []), (82, .ifCond .lt 9, 3, 0, []), (85, .iinc 2 1, 3, 0, []), (88, .goto 13, 3, 0, []), (91, .aload_n 0, 1, 0, []), (92, .dup, 1, 0, []), (93, .getfield 231, 3, 0, []), (96, .iconst 1, 1, 0, []), (97, .iadd, 1, 0, []), (98, .putfield 231, 3, 0, []), (101, .iinc 3 4, 3, 0, []), (104, .goto (-69), 3, 0, []), (107, .aload_n 0, 1, 0, []), (108, .iload_n 2, 1, 0, []), (109, .invokevirtual 185, 3, 0, []), (112, .ireturn, 1, 0, [])]
theorem zd_X12_row : ∀ q ∈ zc_X12_row, decode prog_14_method_30_code q.1 = .ok (q.2.1, q.2.2.1) := by decide +kernel
def zc_X12_dust : List (Nat × ClassFile.Instr × Nat × Nat × List (Nat × Int × Nat)) := [(0, .aload_n 0, 1, 0, []), (1, .iconst 0, 1, 0, []), (2, .putfield 161, 3, 0, []), (5, .aload_n 0, 1, 0, []), (6, .getfield 231, 3, 0, []), (9, .ireturn, 1, 0, [])]
theorem zd_X12_dust : ∀ q ∈ zc_X12_dust, decode prog_14_method_31_code q.1 = .ok (q.2.1, q.2.2.1) := by decide +kernel
def zc_X12_feed : List (Nat × ClassFile.Instr × Nat × Nat × List (Nat × Int × Nat)) := [(0, .aload_n 0, 1, 0, []), (1, .iconst 0, 1, 0, []), (2, .putfield 161, 3, 0, []), (5, .aload_n 0, 1, 0, []), (6, .getfield 228, 3, 0, []), (9, .bipush 20, 2, 0, []), (11, .iadd, 1, 0, []), (12, .sipush 400, 3, 0, []), (15, .if_icmp .le 5, 3, 0, []), (18, .iconst (-1), 1, 0, []), (19, .ireturn, 1, 0, []), (20, .aload_n 0, 1, 0, []), (21, .iload_n 1, 1, 0, []), (22, .invokevirtual 234, 3, 0, []), (25, .aload_n 0, 1, 0, []), (26, .iload_n 2, 1, 0, []), (27, .invokevirtual 234, 3, 0, []), (30, .aload_n 0, 1, 0, []), (31, .iload_n 3, 1, 0, []), (32, .invokevirtual 234, 3, 0, []), (35, .aload_n 0, 1, 0, []), (36, .iload 4, 2, 0, []), (38, .invokevirtual 234, 3, 0, []), (41, .aload_n 0, 1, 0, []), (42, .iload 5, 2, 0, []), (44, .invokevirtual 234, 3, 0, []), (47, .aload_n 0, 1, 0, []), (48, .getfield 228, 3, 0, []), (51, .ireturn, 1, 0, [])]
theorem zd_X12_feed : ∀ q ∈ zc_X12_feed, decode prog_14_method_33_code q.1 = .ok (q.2.1, q.2.2.1) := by decide +kernel
def zc_X12_four : List (Nat × ClassFile.Instr × Nat × Nat × List (Nat × Int × Nat)) := [(0, .bipush 24, 2, 0, []), (2, .istore_n 2, 1, 0, []), (3, .iload_n 2, 1, 0, []), (4, .ifCond .lt 35, 3, 0, []), (7, .aload_n 0, 1, 0, []), (8, .getfield 35, 3, 0, []), (11, .aload_n 0, 1, 0, []), (12, .getfield 228, 3, 0, []), (15, .iload_n 1, 1, 0, []), (16, .iload_n 2, 1, 0, []), (17, .ishr, 1, 0, []), (18, .sipush 255, 3, 0, []), (21, .iand, 1, 0, []), (22, .iastore, 1, 0, []), (23, .aload_n 0, 1, 0, []), (24, .dup, 1, 0, []), (25, .getfield 228, 3, 0, []), (28, .iconst 1, 1, 0, []), (29, .iadd, 1, 0, []), (30, .putfield 228, 3, 0, []), (33, .iinc 2 (-8), 3, 0, []), (36, .goto (-33), 3, 0, []), (39, .return_, 1, 0, [])]
theorem zd_X12_four : ∀ q ∈ zc_X12_four, decode prog_14_method_32_code q.1 = .ok (q.2.1, q.2.2.1) := by decide +kernel
def zc_X12_end : List (Nat × ClassFile.Instr × Nat × Nat × List (Nat × Int × Nat)) := [(0, .aload_n 0, 1, 0, []), (1, .iconst 0, 1, 0, []), (2, .putfield 161, 3, 0, []), (5, .iload_n 1, 1, 0, []), (6, .ifCond .lt 11, 3, 0, []), (9, .iload_n 1, 1, 0, []), (10, .aload_n 0, 1, 0, []), (11, .getfield 228, 3, 0, []), (14, .if_icmp .le 5, 3, 0, []), (17, .iconst (-1), 1, 0, []), (18, .ireturn, 1, 0, []), (19, .aload_n 0, 1, 0, []), (20, .iload_n 1, 1, 0, []), (21, .putfield 228, 3, 0, []), (24, .iload_n 1, 1, 0, []), (25, .ireturn, 1, 0, [])]
theorem zd_X12_end : ∀ q ∈ zc_X12_end, decode prog_14_method_34_code q.1 = .ok (q.2.1, q.2.2.1) := by decide +kernel
def zc_X12_fault : List (Nat × ClassFile.Instr × Nat × Nat × List (Nat × Int × Nat)) := [(0, .aload_n 0, 1, 0, []), (1, .iconst 0, 1, 0, []), (2, .putfield 161, 3, 0, []), (5, .aload_n 0, 1, 0, []), (6, .getfield 38, 3, 0, []), (9, .ireturn, 1, 0, [])]
theorem zd_X12_fault : ∀ q ∈ zc_X12_fault, decode prog_14_method_43_code q.1 = .ok (q.2.1, q.2.2.1) := by decide +kernel
def zc_X12_law : List (Nat × ClassFile.Instr × Nat × Nat × List (Nat × Int × Nat)) := [(0, .aload_n 0, 1, 0, []), (1, .iconst 0, 1, 0, []), (2, .putfield 161, 3, 0, []), (5, .aload_n 0, 1, 0, []), (6, .getfield 13, 3, 0, []), (9, .iconst 3, 1, 0, []), (10, .iaload, 1, 0, []), (11, .bipush 6, 2, 0, []), (13, .if_icmp .ne 15, 3, 0, []), (16, .aload_n 0, 1, 0, []), (17, .iconst 0, 1, 0, []), (18, .putfield 228, 3, 0, []), (21, .aload_n 0, 1, 0, []), (22, .bipush (-5), 2, 0, []), (24, .invokevirtual 170, 3, 0, []), (27, .ireturn, 1, 0, []), (28, .aload_n 0, 1, 0, []), (29, .iconst 0, 1, 0, []), (30, .invokevirtual 379, 3, 0, []), (33, .aload_n 0, 1, 0, []), (34, .invokevirtual 382, 3, 0, []), (37, .aload_n 0, 1, 0, []), (38, .getfield 240, 3, 0, []), (41, .ifCond .ne 23, 3, 0, []), (44, .aload_n 0, 1, 0, []), (45, .bipush 59, 2, 0, []), (47, .invokevirtual 313, 3, 0, []), (50, .ifCond .eq 14, 3, 0, []), (53, .aload_n 0, 1, 0, []), (54, .invokevirtual 244, 3, 0, []), (57, .aload_n 0, 1, 0, []), (58, .invokevirtual 382, 3, 0, []), (61, .goto (-24), 3, 0, []), (64, .aload_n 0, 1, 0, []), (65, .invokevirtual 385, 3, 0, []), (68, .aload_n 0, 1, 0, []), (69, .getfield 240, 3, 0, []), (72, .ifCond .eq 10, 3, 0, []), (75, .aload_n 0, 1, 0, []), (76, .bipush (-6), 2, 0, []), (78, .invokevirtual 170, 3, 0, []), (81, .ireturn, 1, 0, []), (82, .sipush 180, 3, 0, []), (85, .sipush 900, 3, 0, []), (88, .aload_n 0, 1, 0, []), (89, .getfield 13, 3, 0, []), (92, .iconst 3, 1, 0, []), (93, .iaload, 1, 0, []), (94, .imul, 1, 0, []), (95, .iadd, 1, 0, []), (96, .istore_n 1, 1, 0, []), (97, .aload_n 0, 1, 0, []), (98, .getfield 13, 3, 0, []), (101, .iload_n 1, 1, 0, []), (102, .iconst 1, 1, 0, []), (103, .iadd, 1, 0, []), (104, .aload_n 0, 1, 0, []), (105, .getfield 371, 3, 0, []), (108, .iastore, 1, 0, []), (109, .iconst 0, 1, 0, []), (110, .istore_n 2, 1, 0, []), (111, .iload_n 2, 1, 0, []), (112, .bipush 8, 2, 0, []), (114, .aload_n 0, 1, 0, []), (115, .getfield 371, 3, 0, []), (118, .imul, 1, 0, []), (119, .if_icmp .ge 25, 3, 0, []), (122, .aload_n 0, 1, 0, []), (123, .getfield 13, 3, 0, []), (126, .iload_n 1, 1, 0, []), (127, .iconst 2, 1, 0, []), (128, .iadd, 1, 0, []), (129, .iload_n 2, 1, 0, []), (130, .iadd, 1, 0, []), (131, .aload_n 0, 1, 0, []), (132, .getfield 42, 3, 0, []), (135, .iload_n 2, 1, 0, []), (136, .iaload, 1, 0, []), (137, .iastore, 1, 0, []), (138, .iinc 2 1, 3, 0, []), (141, .goto (-30), 3, 0, []), (144, .iconst 0, 1, 0, []), (145, .istore_n 2, 1, 0, []), (146, .iload_n 2, 1, 0, []), (147, .aload_n 0, 1, 0, []), (148, .getfield 279, 3, 0, []), (151, .if_icmp .ge 49, 3, 0, []), (154, .aload_n 0, 1, 0, []), (155, .getfield 13, 3, 0, []), (158, .iload_n 1, 1, 0, []), (159, .bipush 98, 2, 0, []), (161, .iadd, 1, 0, []), (162, .iconst 2, 1, 0, []), (163, .iload_n 2, 1, 0, []), (164, .imul, 1, 0, []), (165, .iadd, 1, 0, []), (166, .aload_n 0, 1, 0, []), (167, .getfield 45, 3, 0, []), (170, .iload_n 2, 1, 0, []), (171, .iaload, 1, 0, []), (172, .iastore, 1, 0, []), (173, .aload_n 0, 1, 0, []), (174, .getfield 13, 3, 0, []), (177, .iload_n 1, 1, 0, []), (178, .bipush 98, 2, 0, []), (180, .iadd, 1, 0, []), (181, .iconst 2, 1, 0, []), (182, .iload_n 2, 1, 0, []), (183, .imul, 1, 0, []), (184, .iadd, 1, 0, []), (185, .iconst 1, 1, 0, []), (186, .iadd, 1, 0, []), (187, .aload_n 0, 1, 0, []), (188, .getfield 48, 3, 0, []), (191, .iload_n 2, 1, 0, []), (192, .iaload, 1, 0, []), (193, .iastore, 1, 0, []), (194, .iinc 2 1, 3, 0, []), (197, .goto (-51), 3, 0, []), (200, .aload_n 0, 1, 0, []), (201, .getfield 13, 3, 0, []), (204, .iconst 3, 1, 0, []), (205, .dup2, 1, 0, []), (206, .iaload, 1, 0, []), (207, .iconst 1, 1, 0, []), (208, .iadd, 1, 0, []), (209, .iastore, 1, 0, []), (210, .aload_n 0, 1, 0, []), (211, .aload_n 0, 1, 0, []), (212, .getfield 13, 3, 0, []), (215, .iconst 3, 1, 0, []), (216, .iaload, 1, 0, []), (217, .iconst 1, 1, 0, []), (218, .isub, 1, 0, []), (219, .invokevirtual 170, 3, 0, []), (222, .ireturn, 1, 0, [])]
theorem zd_X12_law : ∀ q ∈ zc_X12_law, decode prog_14_method_62_code q.1 = .ok (q.2.1, q.2.2.1) := by decide +kernel
def zc_X12_beginText : List (Nat × ClassFile.Instr × Nat × Nat × List (Nat × Int × Nat)) := [(0, .aload_n 0, 1, 0, []), (1, .iload_n 1, 1, 0, []), (2, .putfield 319, 3, 0, []), (5, .aload_n 0, 1, 0, []), (6, .invokevirtual 368, 3, 0, []), (9, .aload_n 0, 1, 0, []), (10, .iconst 0, 1, 0, []), (11, .putfield 371, 3, 0, []), (14, .aload_n 0, 1, 0, []), (15, .iconst 0, 1, 0, []), (16, .putfield 279, 3, 0, []), (19, .aload_n 0, 1, 0, []), (20, .iconst 0, 1, 0, []), (21, .putfield 310, 3, 0, []), (24, .return_, 1, 0, [])]
theorem zd_X12_beginText : ∀ q ∈ zc_X12_beginText, decode prog_14_method_59_code q.1 = .ok (q.2.1, q.2.2.1) := by decide +kernel
def zc_X12_begin : List (Nat × ClassFile.Instr × Nat × Nat × List (Nat × Int × Nat)) := [(0, .aload_n 0, 1, 0, []), (1, .iconst 0, 1, 0, []), (2, .putfield 237, 3, 0, []), (5, .aload_n 0, 1, 0, []), (6, .iconst 0, 1, 0, []), (7, .putfield 240, 3, 0, []), (10, .aload_n 0, 1, 0, []), (11, .iconst (-1), 1, 0, []), (12, .putfield 38, 3, 0, []), (15, .aload_n 0, 1, 0, []), (16, .invokevirtual 244, 3, 0, []), (19, .return_, 1, 0, [])]
theorem zd_X12_begin : ∀ q ∈ zc_X12_begin, decode prog_14_method_37_code q.1 = .ok (q.2.1, q.2.2.1) := by decide +kernel
def zc_X12_next : List (Nat × ClassFile.Instr × Nat × Nat × List (Nat × Int × Nat)) := [(0, .aload_n 0, 1, 0, []), (1, .aload_n 0, 1, 0, []), (2, .getfield 237, 3, 0, []), (5, .putfield 247, 3, 0, []), (8, .aload_n 0, 1, 0, []), (9, .getfield 247, 3, 0, []), (12, .aload_n 0, 1, 0, []), (13, .getfield 228, 3, 0, []), (16, .if_icmp .ge 30, 3, 0, []), (19, .aload_n 0, 1, 0, []), (20, .getfield 35, 3, 0, []), (23, .aload_n 0, 1, 0, []), (24, .getfield 247, 3, 0, []), (27, .iaload, 1, 0, []), (28, .bipush 32, 2, 0, []), (30, .if_icmp .ne 16, 3, 0, []), (33, .aload_n 0, 1, 0, []), (34, .dup, 1, 0, []), (35, .getfield 247, 3, 0, []), (38, .iconst 1, 1, 0, []), (39, .iadd, 1, 0, []), (40, .putfield 247, 3, 0, []), (43, .goto (-35), 3, 0, []), (46, .aload_n 0, 1, 0, []), (47, .aload_n 0, 1, 0, []), (48, .getfield 247, 3, 0, []), (51, .putfield 237, 3, 0, []), (54, .aload_n 0, 1, 0, []), (55, .lconst 0, 1, 0, []), (56, .putfield 250, 3, 0, []), (59, .aload_n 0, 1, 0, []), (60, .aload_n 0, 1, 0, []), (61, .getfield 247, 3, 0, []), (64, .aload_n 0, 1, 0, []), (65, .getfield 228, 3, 0, []), (68, .if_icmp .ne 7, 3, 0, []), (71, .iconst 0, 1, 0, []), (72, .goto 42, 3, 0, []), (75, .aload_n 0, 1, 0, []), (76, .getfield 35, 3, 0, []), (79, .aload_n 0, 1, 0, []), (80, .getfield 247, 3, 0, []), (83, .iaload, 1, 0, []), (84, .invokestatic 254, 3, 0, []), (87, .ifCond .eq 7, 3, 0, []), (90, .iconst 1, 1, 0, []), (91, .goto 23, 3, 0, []), (94, .aload_n 0, 1, 0, []), (95, .getfield 35, 3, 0, []), (98, .aload_n 0, 1, 0, []), (99, .getfield 247, 3, 0, []), (102, .iaload, 1, 0, []), (103, .invokestatic 257, 3, 0, []), (106, .ifCond .eq 7, 3, 0, []), (109, .iconst 2, 1, 0, []), (110, .goto 4, 3, 0, []), (113, .iconst 3, 1, 0, []), (114, .putfield 260, 3, 0, []), (117, .aload_n 0, 1, 0, []), (118, .getfield 260, 3, 0, []), (121, .iconst 3, 1, 0, []), (122, .if_icmp .ne 27, 3, 0, []), (125, .aload_n 0, 1, 0, []), (126, .aload_n 0, 1, 0, []), (127, .getfield 35, 3, 0, []), (130, .aload_n 0, 1, 0, []), (131, .getfield 247, 3, 0, []), (134, .iaload, 1, 0, []), (135, .i2l, 1, 0, []), (136, .putfield 250, 3, 0, []), (139, .aload_n 0, 1, 0, []), (140, .dup, 1, 0, []), (141, .getfield 237, 3, 0, []), (144, .iconst 1, 1, 0, []), (145, .iadd, 1, 0, []), (146, .putfield 237, 3, 0, []), (149, .aload_n 0, 1, 0, []), (150, .getfield 260, 3, 0, []), (153, .iconst 1, 1, 0, []), (154, .if_icmp .ne 89, 3, 0, []), (157, .aload_n 0, 1, 0, []), (158, .getfield 237, 3, 0, []), (161, .aload_n 0, 1, 0, []), (162, .getfield 228, 3, 0, []), (165, .if_icmp .ge 78, 3, 0, []), (168, .aload_n 0, 1, 0, []), (169, .getfield 35, 3, 0, []), (172, .aload_n 0, 1, 0, []), (173, .getfield 237, 3, 0, []), (176, .iaload, 1, 0, []), (177, .invokestatic 254, 3, 0, []), (180, .ifCond .eq 63, 3, 0, []), (183, .aload_n 0, 1, 0, []), (184, .aload_n 0, 1, 0, []), (185, .getfield 237, 3, 0, []), (188, .aload_n 0, 1, 0, []), (189, .getfield 247, 3, 0, []), (192, .isub, 1, 0, []), (193, .bipush 10, 2, 0, []), (195, .if_icmp .ge 29, 3, 0, []), (198, .aload_n 0, 1, 0, []), (199, .getfield 250, 3, 0, []), (202, .ldc2_w 263, 3, 0, []), (205, .lmul, 1, 0, []), (206, .aload_n 0, 1, 0, []), (207, .getfield 35, 3, 0, []), (210, .aload_n 0, 1, 0, []), (211, .getfield 237, 3, 0, []), (214, .iaload, 1, 0, []), (215, .i2l, 1, 0, []), (216, .ladd, 1, 0, []), (217, .ldc2_w 265, 3, 0, []), (220, .lsub, 1, 0, []), (221, .goto 6, 3, 0, []), (224, .ldc2_w 267, 3, 0, []), (227, .putfield 250, 3, 0, []), (230, .aload_n 0, 1, 0, []), (231, .dup, 1, 0, []), (232, .getfield 237, 3, 0, []), (235, .iconst 1, 1, 0, []), (236, .iadd, 1, 0, []), (237, .putfield 237, 3, 0, []), (240, .goto (-91), 3, 0, []), (243, .aload_n 0, 1, 0, []), (244, .getfield 260, 3, 0, []), (247, .iconst 2, 1, 0, []), (248, .if_icmp .ne 87, 3, 0, []), (251, .aload_n 0, 1, 0, []), (252, .getfield 237, 3, 0, []), (255, .aload_n 0, 1, 0, []), (256, .getfield 228, 3, 0, []), (259, .if_icmp .ge 76, 3, 0, []), (262, .aload_n 0, 1, 0, []), (263, .getfield 35, 3, 0, []), (266, .aload_n 0, 1, 0, []), (267, .getfield 237, 3, 0, []), (270, .iaload, 1, 0, []), (271, .invokestatic 257, 3, 0, []), (274, .ifCond .eq 61, 3, 0, []), (277, .aload_n 0, 1, 0, []), (278, .aload_n 0, 1, 0, []), (279, .getfield 250, 3, 0, []), (282, .ldc2_w 269, 3, 0, []), (285, .lcmp, 1, 0, []), (286, .ifCond .le 10, 3, 0, []), (289, .aload_n 0, 1, 0, []), (290, .getfield 250, 3, 0, []), (293, .goto 26, 3, 0, []), (296, .aload_n 0, 1, 0, []), (297, .getfield 250, 3, 0, []), (300, .ldc2_w 271, 3, 0, []), (303, .lmul, 1, 0, []), (304, .aload_n 0, 1, 0, []), (305, .getfield 35, 3, 0, []), (308, .aload_n 0, 1, 0, []), (309, .getfield 237, 3, 0, []), (312, .iaload, 1, 0, []), (313, .i2l, 1, 0, []), (314, .ladd, 1, 0, []), (315, .ldc2_w 273, 3, 0, []), (318, .lsub, 1, 0, []), (319, .putfield 250, 3, 0, []), (322, .aload_n 0, 1, 0, []), (323, .dup, 1, 0, []), (324, .getfield 237, 3, 0, []), (327, .iconst 1, 1, 0, []), (328, .iadd, 1, 0, []), (329, .putfield 237, 3, 0, []), (332, .goto (-89), 3, 0, []), (335, .return_, 1, 0, [])]
theorem zd_X12_next : ∀ q ∈ zc_X12_next, decode prog_14_method_38_code q.1 = .ok (q.2.1, q.2.2.1) := by decide +kernel
def zc_X12_isSmall : List (Nat × ClassFile.Instr × Nat × Nat × List (Nat × Int × Nat)) := [(0, .iload_n 0, 1, 0, []), (1, .bipush 97, 2, 0, []), (3, .if_icmp .lt 13, 3, 0, []), (6, .iload_n 0, 1, 0, []), (7, .bipush 122, 2, 0, []), (9, .if_icmp .gt 7, 3, 0, []), (12, .iconst 1, 1, 0, []), (13, .goto 4, 3, 0, []), (16, .iconst 0, 1, 0, []), (17, .ireturn, 1, 0, [])]
theorem zd_X12_isSmall : ∀ q ∈ zc_X12_isSmall, decode prog_14_method_35_code q.1 = .ok (q.2.1, q.2.2.1) := by decide +kernel
def zc_X12_isDigit : List (Nat × ClassFile.Instr × Nat × Nat × List (Nat × Int × Nat)) := [(0, .iload_n 0, 1, 0, []), (1, .bipush 48, 2, 0, []), (3, .if_icmp .lt 13, 3, 0, []), (6, .iload_n 0, 1, 0, []), (7, .bipush 57, 2, 0, []), (9, .if_icmp .gt 7, 3, 0, []), (12, .iconst 1, 1, 0, []), (13, .goto 4, 3, 0, []), (16, .iconst 0, 1, 0, []), (17, .ireturn, 1, 0, [])]
theorem zd_X12_isDigit : ∀ q ∈ zc_X12_isDigit, decode prog_14_method_36_code q.1 = .ok (q.2.1, q.2.2.1) := by decide +kernel
def zc_X12_readLaw : List (Nat × ClassFile.Instr × Nat × Nat × List (Nat × Int × Nat)) := [(0, .iconst (-1), 1, 0, []), (1, .istore_n 1, 1, 0, []), (2, .iconst 0, 1, 0, []), (3, .istore_n 2, 1, 0, []), (4, .iload_n 2, 1, 0, []), (5, .iconst 5, 1, 0, []), (6, .if_icmp .ge 28, 3, 0, []), (9, .aload_n 0, 1, 0, []), (10, .aload_n 0, 1, 0, []), (11, .getfield 98, 3, 0, []), (14, .iload_n 2, 1, 0, []), (15, .laload, 1, 0, []), (16, .invokevirtual 300, 3, 0, []), (19, .ifCond .eq 7, 3, 0, []), (22, .iload_n 2, 1, 0, []), (23, .goto 4, 3, 0, []), (26, .iload_n 1, 1, 0, []), (27, .istore_n 1, 1, 0, []), (28, .iinc 2 1, 3, 0, []), (31, .goto (-27), 3, 0, []), (34, .aload_n 0, 1, 0, []), (35, .iload_n 1, 1, 0, []), (36, .iconst (-1), 1, 0, []), (37, .if_icmp .eq 16, 3, 0, []), (40, .aload_n 0, 1, 0, []), (41, .getfield 371, 3, 0, []), (44, .bipush 12, 2, 0, []), (46, .if_icmp .ge 7, 3, 0, []), (49, .iconst 1, 1, 0, []), (50, .goto 4, 3, 0, []), (53, .iconst 0, 1, 0, []), (54, .invokevirtual 275, 3, 0, []), (57, .aload_n 0, 1, 0, []), (58, .getfield 240, 3, 0, []), (61, .ifCond .eq 4, 3, 0, []), (64, .return_, 1, 0, []), (65, .bipush 8, 2, 0, []), (67, .aload_n 0, 1, 0, []), (68, .getfield 371, 3, 0, []), (71, .imul, 1, 0, []), (72, .istore_n 2, 1, 0, []), (73, .iconst 0, 1, 0, []), (74, .istore_n 3, 1, 0, []), (75, .iload_n 3, 1, 0, []), (76, .bipush 8, 2, 0, []), (78, .if_icmp .ge 18, 3, 0, []), (81, .aload_n 0, 1, 0, []), (82, .getfield 42, 3, 0, []), (85, .iload_n 2, 1, 0, []), (86, .iload_n 3, 1, 0, []), (87, .iadd, 1, 0, []), (88, .iconst 0, 1, 0, []), (89, .iastore, 1, 0, []), (90, .iinc 3 1, 3, 0, []), (93, .goto (-18), 3, 0, []), (96, .aload_n 0, 1, 0, []), (97, .getfield 42, 3, 0, []), (100, .iload_n 2, 1, 0, []), (101, .iload_n 1, 1, 0, []), (102, .iastore, 1, 0, []), (103, .aload_n 0, 1, 0, []), (104, .dup, 1, 0, []), (105, .getfield 371, 3, 0, []), (108, .iconst 1, 1, 0, []), (109, .iadd, 1, 0, []), (110, .putfield 371, 3, 0, []), (113, .aload_n 0, 1, 0, []), (114, .getfield 42, 3, 0, []), (117, .iload_n 2, 1, 0, []), (118, .iconst 3, 1, 0, []), (119, .iadd, 1, 0, []), (120, .aload_n 0, 1, 0, []), (121, .getfield 279, 3, 0, []), (124, .iastore, 1, 0, []), (125, .iload_n 1, 1, 0, []), (126, .iconst 4, 1, 0, []), (127, .if_icmp .eq 8, 3, 0, []), (130, .aload_n 0, 1, 0, []), (131, .iconst 0, 1, 0, []), (132, .invokevirtual 374, 3, 0, []), (135, .aload_n 0, 1, 0, []), (136, .getfield 42, 3, 0, []), (139, .iload_n 2, 1, 0, []), (140, .iconst 4, 1, 0, []), (141, .iadd, 1, 0, []), (142, .aload_n 0, 1, 0, []), (143, .getfield 279, 3, 0, []), (146, .iastore, 1, 0, []), (147, .aload_n 0, 1, 0, []), (148, .getfield 42, 3, 0, []), (151, .iload_n 2, 1, 0, []), (152, .iconst 5, 1, 0, []), (153, .iadd, 1, 0, []), (154, .aload_n 0, 1, 0, []), (155, .getfield 279, 3, 0, []), (158, .iastore, 1, 0, []), (159, .aload_n 0, 1, 0, []), (160, .getfield 240, 3, 0, []), (163, .ifCond .ne 22, 3, 0, []), (166, .aload_n 0, 1, 0, []), (167, .ldc2_w 377, 3, 0, []), (170, .invokevirtual 300, 3, 0, []), (173, .ifCond .eq 12, 3, 0, []), (176, .aload_n 0, 1, 0, []), (177, .invokevirtual 244, 3, 0, []), (180, .aload_n 0, 1, 0, []), (181, .iconst 1, 1, 0, []), (182, .invokevirtual 374, 3, 0, []), (185, .aload_n 0, 1, 0, []), (186, .getfield 42, 3, 0, []), (189, .iload_n 2, 1, 0, []), (190, .bipush 6, 2, 0, []), (192, .iadd, 1, 0, []), (193, .aload_n 0, 1, 0, []), (194, .getfield 279, 3, 0, []), (197, .iastore, 1, 0, []), (198, .return_, 1, 0, [])]
theorem zd_X12_readLaw : ∀ q ∈ zc_X12_readLaw, decode prog_14_method_61_code q.1 = .ok (q.2.1, q.2.2.1) := by decide +kernel
def zc_X12_isWord : List (Nat × ClassFile.Instr × Nat × Nat × List (Nat × Int × Nat)) := [(0, .aload_n 0, 1, 0, []), (1, .getfield 260, 3, 0, []), (4, .iconst 1, 1, 0, []), (5, .if_icmp .ne 16, 3, 0, []), (8, .aload_n 0, 1, 0, []), (9, .getfield 250, 3, 0, []), (12, .lload_n 1, 1, 0, []), (13, .lcmp, 1, 0, []), (14, .ifCond .ne 7, 3, 0, []), (17, .iconst 1, 1, 0, []), (18, .goto 4, 3, 0, []), (21, .iconst 0, 1, 0, []), (22, .ireturn, 1, 0, [])]
theorem zd_X12_isWord : ∀ q ∈ zc_X12_isWord, decode prog_14_method_39_code q.1 = .ok (q.2.1, q.2.2.1) := by decide +kernel
def zc_X12_must : List (Nat × ClassFile.Instr × Nat × Nat × List (Nat × Int × Nat)) := [(0, .aload_n 0, 1, 0, []), (1, .getfield 240, 3, 0, []), (4, .ifCond .ne 20, 3, 0, []), (7, .iload_n 1, 1, 0, []), (8, .ifCond .ne 16, 3, 0, []), (11, .aload_n 0, 1, 0, []), (12, .iconst 1, 1, 0, []), (13, .putfield 240, 3, 0, []), (16, .aload_n 0, 1, 0, []), (17, .aload_n 0, 1, 0, []), (18, .getfield 247, 3, 0, []), (21, .putfield 38, 3, 0, []), (24, .aload_n 0, 1, 0, []), (25, .getfield 240, 3, 0, []), (28, .ifCond .ne 7, 3, 0, []), (31, .aload_n 0, 1, 0, []), (32, .invokevirtual 244, 3, 0, []), (35, .return_, 1, 0, [])]
theorem zd_X12_must : ∀ q ∈ zc_X12_must, decode prog_14_method_41_code q.1 = .ok (q.2.1, q.2.2.1) := by decide +kernel
def zc_X12_readExpression : List (Nat × ClassFile.Instr × Nat × Nat × List (Nat × Int × Nat)) := [(0, .aload_n 0, 1, 0, []), (1, .iconst 0, 1, 0, []), (2, .putfield 282, 3, 0, []), (5, .aload_n 0, 1, 0, []), (6, .iconst 0, 1, 0, []), (7, .putfield 304, 3, 0, []), (10, .iload_n 1, 1, 0, []), (11, .ifCond .eq 7, 3, 0, []), (14, .iconst 0, 1, 0, []), (15, .goto 4, 3, 0, []), (18, .iconst 1, 1, 0, []), (19, .istore_n 2, 1, 0, []), (20, .aload_n 0, 1, 0, []), (21, .getfield 240, 3, 0, []), (24, .ifCond .ne 52, 3, 0, []), (27, .iload_n 2, 1, 0, []), (28, .iconst 4, 1, 0, []), (29, .if_icmp .eq 47, 3, 0, []), (32, .iload_n 2, 1, 0, []), (33, .ifCond .ne 10, 3, 0, []), (36, .aload_n 0, 1, 0, []), (37, .invokevirtual 358, 3, 0, []), (40, .goto 32, 3, 0, []), (43, .iload_n 2, 1, 0, []), (44, .iconst 1, 1, 0, []), (45, .if_icmp .ne 10, 3, 0, []), (48, .aload_n 0, 1, 0, []), (49, .invokevirtual 341, 3, 0, []), (52, .goto 20, 3, 0, []), (55, .iload_n 2, 1, 0, []), (56, .iconst 3, 1, 0, []), (57, .if_icmp .ne 11, 3, 0, []), (60, .aload_n 0, 1, 0, []), (61, .iload_n 1, 1, 0, []), (62, .invokevirtual 361, 3, 0, []), (65, .goto 7, 3, 0, []), (68, .aload_n 0, 1, 0, []), (69, .invokevirtual 365, 3, 0, []), (72, .istore_n 2, 1, 0, []), (73, .goto (-53), 3, 0, []), (76, .aload_n 0, 1, 0, []), (77, .iconst 1, 1, 0, []), (78, .invokevirtual 344, 3, 0, []), (81, .return_, 1, 0, [])]
theorem zd_X12_readExpression : ∀ q ∈ zc_X12_readExpression, decode prog_14_method_58_code q.1 = .ok (q.2.1, q.2.2.1) := by decide +kernel
def zc_X12_readPlain : List (Nat × ClassFile.Instr × Nat × Nat × List (Nat × Int × Nat)) := [(0, .aload_n 0, 1, 0, []), (1, .ldc2_w 339, 3, 0, []), (4, .invokevirtual 300, 3, 0, []), (7, .ifCond .eq 16, 3, 0, []), (10, .aload_n 0, 1, 0, []), (11, .bipush 28, 2, 0, []), (13, .iconst 0, 1, 0, []), (14, .invokevirtual 307, 3, 0, []), (17, .aload_n 0, 1, 0, []), (18, .invokevirtual 244, 3, 0, []), (21, .iconst 0, 1, 0, []), (22, .ireturn, 1, 0, []), (23, .aload_n 0, 1, 0, []), (24, .bipush 40, 2, 0, []), (26, .invokevirtual 313, 3, 0, []), (29, .ifCond .eq 11, 3, 0, []), (32, .aload_n 0, 1, 0, []), (33, .bipush 31, 2, 0, []), (35, .invokevirtual 316, 3, 0, []), (38, .iconst 0, 1, 0, []), (39, .ireturn, 1, 0, []), (40, .aload_n 0, 1, 0, []), (41, .invokevirtual 341, 3, 0, []), (44, .ireturn, 1, 0, [])]
theorem zd_X12_readPlain : ∀ q ∈ zc_X12_readPlain, decode prog_14_method_55_code q.1 = .ok (q.2.1, q.2.2.1) := by decide +kernel
def zc_X12_push : List (Nat × ClassFile.Instr × Nat × Nat × List (Nat × Int × Nat)) := [(0, .aload_n 0, 1, 0, []), (1, .getfield 51, 3, 0, []), (4, .aload_n 0, 1, 0, []), (5, .getfield 282, 3, 0, []), (8, .iload_n 1, 1, 0, []), (9, .iastore, 1, 0, []), (10, .aload_n 0, 1, 0, []), (11, .getfield 54, 3, 0, []), (14, .aload_n 0, 1, 0, []), (15, .getfield 282, 3, 0, []), (18, .iload_n 2, 1, 0, []), (19, .iastore, 1, 0, []), (20, .aload_n 0, 1, 0, []), (21, .dup, 1, 0, []), (22, .getfield 282, 3, 0, []), (25, .iconst 1, 1, 0, []), (26, .iadd, 1, 0, []), (27, .putfield 282, 3, 0, []), (30, .return_, 1, 0, [])]
theorem zd_X12_push : ∀ q ∈ zc_X12_push, decode prog_14_method_45_code q.1 = .ok (q.2.1, q.2.2.1) := by decide +kernel
def zc_X12_isSign : List (Nat × ClassFile.Instr × Nat × Nat × List (Nat × Int × Nat)) := [(0, .aload_n 0, 1, 0, []), (1, .getfield 260, 3, 0, []), (4, .iconst 3, 1, 0, []), (5, .if_icmp .ne 17, 3, 0, []), (8, .aload_n 0, 1, 0, []), (9, .getfield 250, 3, 0, []), (12, .iload_n 1, 1, 0, []), (13, .i2l, 1, 0, []), (14, .lcmp, 1, 0, []), (15, .ifCond .ne 7, 3, 0, []), (18, .iconst 1, 1, 0, []), (19, .goto 4, 3, 0, []), (22, .iconst 0, 1, 0, []), (23, .ireturn, 1, 0, [])]
theorem zd_X12_isSign : ∀ q ∈ zc_X12_isSign, decode prog_14_method_40_code q.1 = .ok (q.2.1, q.2.2.1) := by decide +kernel
def zc_X12_openBracket : List (Nat × ClassFile.Instr × Nat × Nat × List (Nat × Int × Nat)) := [(0, .aload_n 0, 1, 0, []), (1, .aload_n 0, 1, 0, []), (2, .getfield 304, 3, 0, []), (5, .bipush 8, 2, 0, []), (7, .if_icmp .ge 7, 3, 0, []), (10, .iconst 1, 1, 0, []), (11, .goto 4, 3, 0, []), (14, .iconst 0, 1, 0, []), (15, .invokevirtual 275, 3, 0, []), (18, .aload_n 0, 1, 0, []), (19, .getfield 240, 3, 0, []), (22, .ifCond .ne 19, 3, 0, []), (25, .aload_n 0, 1, 0, []), (26, .dup, 1, 0, []), (27, .getfield 304, 3, 0, []), (30, .iconst 1, 1, 0, []), (31, .iadd, 1, 0, []), (32, .putfield 304, 3, 0, []), (35, .aload_n 0, 1, 0, []), (36, .iload_n 1, 1, 0, []), (37, .iconst 0, 1, 0, []), (38, .invokevirtual 307, 3, 0, []), (41, .return_, 1, 0, [])]
theorem zd_X12_openBracket : ∀ q ∈ zc_X12_openBracket, decode prog_14_method_52_code q.1 = .ok (q.2.1, q.2.2.1) := by decide +kernel
def zc_X12_readPart : List (Nat × ClassFile.Instr × Nat × Nat × List (Nat × Int × Nat)) := [(0, .aload_n 0, 1, 0, []), (1, .bipush 91, 2, 0, []), (3, .invokevirtual 313, 3, 0, []), (6, .ifCond .eq 11, 3, 0, []), (9, .aload_n 0, 1, 0, []), (10, .bipush 32, 2, 0, []), (12, .invokevirtual 316, 3, 0, []), (15, .iconst 1, 1, 0, []), (16, .ireturn, 1, 0, []), (17, .aload_n 0, 1, 0, []), (18, .getfield 319, 3, 0, []), (21, .ifCond .eq 10, 3, 0, []), (24, .aload_n 0, 1, 0, []), (25, .invokevirtual 322, 3, 0, []), (28, .goto 7, 3, 0, []), (31, .aload_n 0, 1, 0, []), (32, .invokevirtual 326, 3, 0, []), (35, .istore_n 1, 1, 0, []), (36, .aload_n 0, 1, 0, []), (37, .getfield 260, 3, 0, []), (40, .iconst 2, 1, 0, []), (41, .if_icmp .ne 18, 3, 0, []), (44, .aload_n 0, 1, 0, []), (45, .getfield 250, 3, 0, []), (48, .ldc2_w 329, 3, 0, []), (51, .lcmp, 1, 0, []), (52, .ifCond .gt 7, 3, 0, []), (55, .iconst 1, 1, 0, []), (56, .goto 4, 3, 0, []), (59, .iconst 0, 1, 0, []), (60, .istore_n 2, 1, 0, []), (61, .aload_n 0, 1, 0, []), (62, .iload_n 1, 1, 0, []), (63, .iconst (-1), 1, 0, []), (64, .if_icmp .ne 7, 3, 0, []), (67, .iload_n 2, 1, 0, []), (68, .ifCond .eq 7, 3, 0, []), (71, .iconst 1, 1, 0, []), (72, .goto 4, 3, 0, []), (75, .iconst 0, 1, 0, []), (76, .iload_n 1, 1, 0, []), (77, .iconst (-1), 1, 0, []), (78, .if_icmp .ne 7, 3, 0, []), (81, .iconst 0, 1, 0, []), (82, .goto 4, 3, 0, []), (85, .iload_n 1, 1, 0, []), (86, .iload_n 2, 1, 0, []), (87, .ifCond .eq 11, 3, 0, []), (90, .aload_n 0, 1, 0, []), (91, .getfield 250, 3, 0, []), (94, .l2i, 1, 0, []), (95, .goto 4, 3, 0, []), (98, .iconst 0, 1, 0, []), (99, .invokevirtual 331, 3, 0, []), (102, .aload_n 0, 1, 0, []), (103, .getfield 319, 3, 0, []), (106, .ifCond .eq 49, 3, 0, []), (109, .iload_n 1, 1, 0, []), (110, .bipush 6, 2, 0, []), (112, .if_icmp .lt 43, 3, 0, []), (115, .aload_n 0, 1, 0, []), (116, .getfield 240, 3, 0, []), (119, .ifCond .ne 36, 3, 0, []), (122, .aload_n 0, 1, 0, []), (123, .getfield 279, 3, 0, []), (126, .iconst 1, 1, 0, []), (127, .isub, 1, 0, []), (128, .istore_n 3, 1, 0, []), (129, .aload_n 0, 1, 0, []), (130, .getfield 48, 3, 0, []), (133, .iload_n 3, 1, 0, []), (134, .aload_n 0, 1, 0, []), (135, .lconst 0, 1, 0, []), (136, .iload_n 1, 1, 0, []), (137, .bipush 6, 2, 0, []), (139, .if_icmp .ne 9, 3, 0, []), (142, .ldc2_w 224, 3, 0, []), (145, .goto 6, 3, 0, []), (148, .ldc2_w 199, 3, 0, []), (151, .invokevirtual 335, 3, 0, []), (154, .iastore, 1, 0, []), (155, .iconst 3, 1, 0, []), (156, .ireturn, 1, 0, [])]
theorem zd_X12_readPart : ∀ q ∈ zc_X12_readPart, decode prog_14_method_54_code q.1 = .ok (q.2.1, q.2.2.1) := by decide +kernel
def zc_X12_orderPartAt : List (Nat × ClassFile.Instr × Nat × Nat × List (Nat × Int × Nat)) := [(0, .iconst (-1), 1, 0, []), (1, .istore_n 1, 1, 0, []), (2, .iconst 0, 1, 0, []), (3, .istore_n 2, 1, 0, []), (4, .iload_n 2, 1, 0, []), (5, .bipush 7, 2, 0, []), (7, .if_icmp .ge 30, 3, 0, []), (10, .aload_n 0, 1, 0, []), (11, .aload_n 0, 1, 0, []), (12, .getfield 85, 3, 0, []), (15, .iload_n 2, 1, 0, []), (16, .laload, 1, 0, []), (17, .invokevirtual 300, 3, 0, []), (20, .ifCond .eq 9, 3, 0, []), (23, .iload_n 2, 1, 0, []), (24, .iconst 1, 1, 0, []), (25, .iadd, 1, 0, []), (26, .goto 4, 3, 0, []), (29, .iload_n 1, 1, 0, []), (30, .istore_n 1, 1, 0, []), (31, .iinc 2 1, 3, 0, []), (34, .goto (-30), 3, 0, []), (37, .iload_n 1, 1, 0, []), (38, .ireturn, 1, 0, [])]
theorem zd_X12_orderPartAt : ∀ q ∈ zc_X12_orderPartAt, decode prog_14_method_51_code q.1 = .ok (q.2.1, q.2.2.1) := by decide +kernel
def zc_X12_partAt : List (Nat × ClassFile.Instr × Nat × Nat × List (Nat × Int × Nat)) := [(0, .iconst (-1), 1, 0, []), (1, .istore_n 1, 1, 0, []), (2, .iconst 0, 1, 0, []), (3, .istore_n 2, 1, 0, []), (4, .iload_n 2, 1, 0, []), (5, .bipush 9, 2, 0, []), (7, .if_icmp .ge 30, 3, 0, []), (10, .aload_n 0, 1, 0, []), (11, .aload_n 0, 1, 0, []), (12, .getfield 75, 3, 0, []), (15, .iload_n 2, 1, 0, []), (16, .laload, 1, 0, []), (17, .invokevirtual 300, 3, 0, []), (20, .ifCond .eq 9, 3, 0, []), (23, .iload_n 2, 1, 0, []), (24, .iconst 1, 1, 0, []), (25, .iadd, 1, 0, []), (26, .goto 4, 3, 0, []), (29, .iload_n 1, 1, 0, []), (30, .istore_n 1, 1, 0, []), (31, .iinc 2 1, 3, 0, []), (34, .goto (-30), 3, 0, []), (37, .iload_n 1, 1, 0, []), (38, .ireturn, 1, 0, [])]
theorem zd_X12_partAt : ∀ q ∈ zc_X12_partAt, decode prog_14_method_50_code q.1 = .ok (q.2.1, q.2.2.1) := by decide +kernel
def zc_X12_leaf : List (Nat × ClassFile.Instr × Nat × Nat × List (Nat × Int × Nat)) := [(0, .aload_n 0, 1, 0, []), (1, .iload_n 1, 1, 0, []), (2, .ifCond .eq 16, 3, 0, []), (5, .aload_n 0, 1, 0, []), (6, .getfield 310, 3, 0, []), (9, .bipush 50, 2, 0, []), (11, .if_icmp .ge 7, 3, 0, []), (14, .iconst 1, 1, 0, []), (15, .goto 4, 3, 0, []), (18, .iconst 0, 1, 0, []), (19, .invokevirtual 275, 3, 0, []), (22, .aload_n 0, 1, 0, []), (23, .getfield 240, 3, 0, []), (26, .ifCond .ne 19, 3, 0, []), (29, .aload_n 0, 1, 0, []), (30, .iload_n 2, 1, 0, []), (31, .iload_n 3, 1, 0, []), (32, .invokevirtual 288, 3, 0, []), (35, .aload_n 0, 1, 0, []), (36, .dup, 1, 0, []), (37, .getfield 310, 3, 0, []), (40, .iconst 1, 1, 0, []), (41, .iadd, 1, 0, []), (42, .putfield 310, 3, 0, []), (45, .return_, 1, 0, [])]
theorem zd_X12_leaf : ∀ q ∈ zc_X12_leaf, decode prog_14_method_53_code q.1 = .ok (q.2.1, q.2.2.1) := by decide +kernel
def zc_X12_emit : List (Nat × ClassFile.Instr × Nat × Nat × List (Nat × Int × Nat)) := [(0, .aload_n 0, 1, 0, []), (1, .getfield 45, 3, 0, []), (4, .aload_n 0, 1, 0, []), (5, .getfield 279, 3, 0, []), (8, .iload_n 1, 1, 0, []), (9, .iastore, 1, 0, []), (10, .aload_n 0, 1, 0, []), (11, .getfield 48, 3, 0, []), (14, .aload_n 0, 1, 0, []), (15, .getfield 279, 3, 0, []), (18, .iload_n 2, 1, 0, []), (19, .iastore, 1, 0, []), (20, .aload_n 0, 1, 0, []), (21, .dup, 1, 0, []), (22, .getfield 279, 3, 0, []), (25, .iconst 1, 1, 0, []), (26, .iadd, 1, 0, []), (27, .putfield 279, 3, 0, []), (30, .return_, 1, 0, [])]
theorem zd_X12_emit : ∀ q ∈ zc_X12_emit, decode prog_14_method_44_code q.1 = .ok (q.2.1, q.2.2.1) := by decide +kernel
def zc_X12_number : List (Nat × ClassFile.Instr × Nat × Nat × List (Nat × Int × Nat)) := [(0, .aload_n 0, 1, 0, []), (1, .getfield 250, 3, 0, []), (4, .l2i, 1, 0, []), (5, .istore 5, 2, 0, []), (7, .aload_n 0, 1, 0, []), (8, .aload_n 0, 1, 0, []), (9, .getfield 260, 3, 0, []), (12, .iconst 2, 1, 0, []), (13, .if_icmp .ne 19, 3, 0, []), (16, .aload_n 0, 1, 0, []), (17, .getfield 250, 3, 0, []), (20, .lload_n 1, 1, 0, []), (21, .lload_n 3, 1, 0, []), (22, .invokestatic 181, 3, 0, []), (25, .ifCond .eq 7, 3, 0, []), (28, .iconst 1, 1, 0, []), (29, .goto 4, 3, 0, []), (32, .iconst 0, 1, 0, []), (33, .invokevirtual 275, 3, 0, []), (36, .iload 5, 2, 0, []), (38, .ireturn, 1, 0, [])]
theorem zd_X12_number : ∀ q ∈ zc_X12_number, decode prog_14_method_42_code q.1 = .ok (q.2.1, q.2.2.1) := by decide +kernel
def zc_X12_behindSum : List (Nat × ClassFile.Instr × Nat × Nat × List (Nat × Int × Nat)) := [(0, .aload_n 0, 1, 0, []), (1, .bipush 43, 2, 0, []), (3, .invokevirtual 313, 3, 0, []), (6, .ifCond .eq 8, 3, 0, []), (9, .bipush 20, 2, 0, []), (11, .goto 60, 3, 0, []), (14, .aload_n 0, 1, 0, []), (15, .bipush 45, 2, 0, []), (17, .invokevirtual 313, 3, 0, []), (20, .ifCond .eq 8, 3, 0, []), (23, .bipush 21, 2, 0, []), (25, .goto 46, 3, 0, []), (28, .aload_n 0, 1, 0, []), (29, .bipush 42, 2, 0, []), (31, .invokevirtual 313, 3, 0, []), (34, .ifCond .eq 8, 3, 0, []), (37, .bipush 22, 2, 0, []), (39, .goto 32, 3, 0, []), (42, .aload_n 0, 1, 0, []), (43, .bipush 47, 2, 0, []), (45, .invokevirtual 313, 3, 0, []), (48, .ifCond .eq 8, 3, 0, []), (51, .bipush 23, 2, 0, []), (53, .goto 18, 3, 0, []), (56, .aload_n 0, 1, 0, []), (57, .bipush 37, 2, 0, []), (59, .invokevirtual 313, 3, 0, []), (62, .ifCond .eq 8, 3, 0, []), (65, .bipush 24, 2, 0, []), (67, .goto 4, 3, 0, []), (70, .iconst (-1), 1, 0, []), (71, .istore_n 2, 1, 0, []), (72, .iload_n 2, 1, 0, []), (73, .iconst (-1), 1, 0, []), (74, .if_icmp .eq 23, 3, 0, []), (77, .aload_n 0, 1, 0, []), (78, .iload_n 2, 1, 0, []), (79, .invokestatic 285, 3, 0, []), (82, .invokevirtual 344, 3, 0, []), (85, .aload_n 0, 1, 0, []), (86, .iload_n 2, 1, 0, []), (87, .iconst 0, 1, 0, []), (88, .invokevirtual 307, 3, 0, []), (91, .aload_n 0, 1, 0, []), (92, .invokevirtual 244, 3, 0, []), (95, .iconst 1, 1, 0, []), (96, .ireturn, 1, 0, []), (97, .aload_n 0, 1, 0, []), (98, .invokevirtual 347, 3, 0, []), (101, .istore_n 3, 1, 0, []), (102, .iload_n 3, 1, 0, []), (103, .bipush 32, 2, 0, []), (105, .if_icmp .ne 47, 3, 0, []), (108, .aload_n 0, 1, 0, []), (109, .aload_n 0, 1, 0, []), (110, .bipush 93, 2, 0, []), (112, .invokevirtual 313, 3, 0, []), (115, .invokevirtual 275, 3, 0, []), (118, .aload_n 0, 1, 0, []), (119, .getfield 240, 3, 0, []), (122, .ifCond .ne 28, 3, 0, []), (125, .aload_n 0, 1, 0, []), (126, .iconst 5, 1, 0, []), (127, .invokevirtual 344, 3, 0, []), (130, .aload_n 0, 1, 0, []), (131, .dup, 1, 0, []), (132, .getfield 282, 3, 0, []), (135, .iconst 1, 1, 0, []), (136, .isub, 1, 0, []), (137, .putfield 282, 3, 0, []), (140, .aload_n 0, 1, 0, []), (141, .dup, 1, 0, []), (142, .getfield 304, 3, 0, []), (145, .iconst 1, 1, 0, []), (146, .isub, 1, 0, []), (147, .putfield 304, 3, 0, []), (150, .iconst 3, 1, 0, []), (151, .ireturn, 1, 0, []), (152, .iload_n 3, 1, 0, []), (153, .iconst (-1), 1, 0, []), (154, .if_icmp .ne 9, 3, 0, []), (157, .iload_n 1, 1, 0, []), (158, .ifCond .ne 5, 3, 0, []), (161, .iconst 4, 1, 0, []), (162, .ireturn, 1, 0, []), (163, .aload_n 0, 1, 0, []), (164, .invokevirtual 350, 3, 0, []), (167, .ifCond .eq 5, 3, 0, []), (170, .iconst 2, 1, 0, []), (171, .ireturn, 1, 0, []), (172, .aload_n 0, 1, 0, []), (173, .bipush 60, 2, 0, []), (175, .invokevirtual 313, 3, 0, []), (178, .ifCond .eq 8, 3, 0, []), (181, .bipush 25, 2, 0, []), (183, .goto 19, 3, 0, []), (186, .aload_n 0, 1, 0, []), (187, .bipush 62, 2, 0, []), (189, .invokevirtual 313, 3, 0, []), (192, .ifCond .eq 8, 3, 0, []), (195, .bipush 26, 2, 0, []), (197, .goto 5, 3, 0, []), (200, .bipush 27, 2, 0, []), (202, .istore_n 2, 1, 0, []), (203, .aload_n 0, 1, 0, []), (204, .iload_n 2, 1, 0, []), (205, .bipush 27, 2, 0, []), (207, .if_icmp .ne 12, 3, 0, []), (210, .aload_n 0, 1, 0, []), (211, .bipush 61, 2, 0, []), (213, .invokevirtual 313, 3, 0, []), (216, .ifCond .eq 7, 3, 0, []), (219, .iconst 1, 1, 0, []), (220, .goto 4, 3, 0, []), (223, .iconst 0, 1, 0, []), (224, .invokevirtual 275, 3, 0, []), (227, .aload_n 0, 1, 0, []), (228, .getfield 240, 3, 0, []), (231, .ifCond .ne 14, 3, 0, []), (234, .aload_n 0, 1, 0, []), (235, .iconst 5, 1, 0, []), (236, .invokevirtual 344, 3, 0, []), (239, .aload_n 0, 1, 0, []), (240, .iload_n 2, 1, 0, []), (241, .iconst 0, 1, 0, []), (242, .invokevirtual 307, 3, 0, []), (245, .iconst 1, 1, 0, []), (246, .ireturn, 1, 0, [])]
theorem zd_X12_behindSum : ∀ q ∈ zc_X12_behindSum, decode prog_14_method_56_code q.1 = .ok (q.2.1, q.2.2.1) := by decide +kernel
def zc_X12_binds : List (Nat × ClassFile.Instr × Nat × Nat × List (Nat × Int × Nat)) := [(0, .iload_n 0, 1, 0, []), (1, .bipush 31, 2, 0, []), (3, .if_icmp .lt 7, 3, 0, []), (6, .iconst 0, 1, 0, []), (7, .goto 55, 3, 0, []), (10, .iload_n 0, 1, 0, []), (11, .bipush 30, 2, 0, []), (13, .if_icmp .ne 7, 3, 0, []), (16, .iconst 1, 1, 0, []), (17, .goto 45, 3, 0, []), (20, .iload_n 0, 1, 0, []), (21, .bipush 29, 2, 0, []), (23, .if_icmp .ne 7, 3, 0, []), (26, .iconst 2, 1, 0, []), (27, .goto 35, 3, 0, []), (30, .iload_n 0, 1, 0, []), (31, .bipush 28, 2, 0, []), (33, .if_icmp .ne 7, 3, 0, []), (36, .iconst 3, 1, 0, []), (37, .goto 25, 3, 0, []), (40, .iload_n 0, 1, 0, []), (41, .bipush 25, 2, 0, []), (43, .if_icmp .lt 7, 3, 0, []), (46, .iconst 4, 1, 0, []), (47, .goto 15, 3, 0, []), (50, .iload_n 0, 1, 0, []), (51, .bipush 22, 2, 0, []), (53, .if_icmp .lt 8, 3, 0, []), (56, .bipush 6, 2, 0, []), (58, .goto 4, 3, 0, []), (61, .iconst 5, 1, 0, []), (62, .ireturn, 1, 0, [])]
theorem zd_X12_binds : ∀ q ∈ zc_X12_binds, decode prog_14_method_46_code q.1 = .ok (q.2.1, q.2.2.1) := by decide +kernel
def zc_X12_settle : List (Nat × ClassFile.Instr × Nat × Nat × List (Nat × Int × Nat)) := [(0, .aload_n 0, 1, 0, []), (1, .getfield 282, 3, 0, []), (4, .ifCond .le 97, 3, 0, []), (7, .aload_n 0, 1, 0, []), (8, .getfield 51, 3, 0, []), (11, .aload_n 0, 1, 0, []), (12, .getfield 282, 3, 0, []), (15, .iconst 1, 1, 0, []), (16, .isub, 1, 0, []), (17, .iaload, 1, 0, []), (18, .invokestatic 285, 3, 0, []), (21, .iload_n 1, 1, 0, []), (22, .if_icmp .lt 79, 3, 0, []), (25, .aload_n 0, 1, 0, []), (26, .dup, 1, 0, []), (27, .getfield 282, 3, 0, []), (30, .iconst 1, 1, 0, []), (31, .isub, 1, 0, []), (32, .putfield 282, 3, 0, []), (35, .aload_n 0, 1, 0, []), (36, .getfield 51, 3, 0, []), (39, .aload_n 0, 1, 0, []), (40, .getfield 282, 3, 0, []), (43, .iaload, 1, 0, []), (44, .bipush 29, 2, 0, []), (46, .if_icmp .eq 17, 3, 0, []), (49, .aload_n 0, 1, 0, []), (50, .getfield 51, 3, 0, []), (53, .aload_n 0, 1, 0, []), (54, .getfield 282, 3, 0, []), (57, .iaload, 1, 0, []), (58, .bipush 30, 2, 0, []), (60, .if_icmp .ne 24, 3, 0, []), (63, .aload_n 0, 1, 0, []), (64, .getfield 48, 3, 0, []), (67, .aload_n 0, 1, 0, []), (68, .getfield 54, 3, 0, []), (71, .aload_n 0, 1, 0, []), (72, .getfield 282, 3, 0, []), (75, .iaload, 1, 0, []), (76, .aload_n 0, 1, 0, []), (77, .getfield 279, 3, 0, []), (80, .iastore, 1, 0, []), (81, .goto (-81), 3, 0, []), (84, .aload_n 0, 1, 0, []), (85, .aload_n 0, 1, 0, []), (86, .getfield 51, 3, 0, []), (89, .aload_n 0, 1, 0, []), (90, .getfield 282, 3, 0, []), (93, .iaload, 1, 0, []), (94, .iconst 0, 1, 0, []), (95, .invokevirtual 288, 3, 0, []), (98, .goto (-98), 3, 0, []), (101, .return_, 1, 0, [])]
theorem zd_X12_settle : ∀ q ∈ zc_X12_settle, decode prog_14_method_47_code q.1 = .ok (q.2.1, q.2.2.1) := by decide +kernel
def zc_X12_inner : List (Nat × ClassFile.Instr × Nat × Nat × List (Nat × Int × Nat)) := [(0, .iconst (-1), 1, 0, []), (1, .istore_n 1, 1, 0, []), (2, .iconst 0, 1, 0, []), (3, .istore_n 2, 1, 0, []), (4, .iload_n 2, 1, 0, []), (5, .aload_n 0, 1, 0, []), (6, .getfield 282, 3, 0, []), (9, .if_icmp .ge 31, 3, 0, []), (12, .aload_n 0, 1, 0, []), (13, .getfield 51, 3, 0, []), (16, .iload_n 2, 1, 0, []), (17, .iaload, 1, 0, []), (18, .bipush 31, 2, 0, []), (20, .if_icmp .lt 12, 3, 0, []), (23, .aload_n 0, 1, 0, []), (24, .getfield 51, 3, 0, []), (27, .iload_n 2, 1, 0, []), (28, .iaload, 1, 0, []), (29, .goto 4, 3, 0, []), (32, .iload_n 1, 1, 0, []), (33, .istore_n 1, 1, 0, []), (34, .iinc 2 1, 3, 0, []), (37, .goto (-33), 3, 0, []), (40, .iload_n 1, 1, 0, []), (41, .ireturn, 1, 0, [])]
theorem zd_X12_inner : ∀ q ∈ zc_X12_inner, decode prog_14_method_48_code q.1 = .ok (q.2.1, q.2.2.1) := by decide +kernel
def zc_X12_isCompared : List (Nat × ClassFile.Instr × Nat × Nat × List (Nat × Int × Nat)) := [(0, .aload_n 0, 1, 0, []), (1, .getfield 282, 3, 0, []), (4, .iconst 1, 1, 0, []), (5, .isub, 1, 0, []), (6, .istore_n 1, 1, 0, []), (7, .iload_n 1, 1, 0, []), (8, .ifCond .lt 28, 3, 0, []), (11, .aload_n 0, 1, 0, []), (12, .getfield 51, 3, 0, []), (15, .iload_n 1, 1, 0, []), (16, .iaload, 1, 0, []), (17, .i2l, 1, 0, []), (18, .ldc2_w 292, 3, 0, []), (21, .ldc2_w 294, 3, 0, []), (24, .invokestatic 181, 3, 0, []), (27, .ifCond .eq 9, 3, 0, []), (30, .iinc 1 (-1), 3, 0, []), (33, .goto (-26), 3, 0, []), (36, .iload_n 1, 1, 0, []), (37, .ifCond .lt 26, 3, 0, []), (40, .aload_n 0, 1, 0, []), (41, .getfield 51, 3, 0, []), (44, .iload_n 1, 1, 0, []), (45, .iaload, 1, 0, []), (46, .i2l, 1, 0, []), (47, .ldc2_w 296, 3, 0, []), (50, .ldc2_w 298, 3, 0, []), (53, .invokestatic 181, 3, 0, []), (56, .ifCond .eq 7, 3, 0, []), (59, .iconst 1, 1, 0, []), (60, .goto 4, 3, 0, []), (63, .iconst 0, 1, 0, []), (64, .ireturn, 1, 0, [])]
theorem zd_X12_isCompared : ∀ q ∈ zc_X12_isCompared, decode prog_14_method_49_code q.1 = .ok (q.2.1, q.2.2.1) := by decide +kernel
def zc_X12_behindTest : List (Nat × ClassFile.Instr × Nat × Nat × List (Nat × Int × Nat)) := [(0, .aload_n 0, 1, 0, []), (1, .ldc2_w 354, 3, 0, []), (4, .invokevirtual 300, 3, 0, []), (7, .istore_n 1, 1, 0, []), (8, .iload_n 1, 1, 0, []), (9, .ifCond .ne 13, 3, 0, []), (12, .aload_n 0, 1, 0, []), (13, .ldc2_w 356, 3, 0, []), (16, .invokevirtual 300, 3, 0, []), (19, .ifCond .eq 57, 3, 0, []), (22, .aload_n 0, 1, 0, []), (23, .iload_n 1, 1, 0, []), (24, .ifCond .eq 7, 3, 0, []), (27, .iconst 2, 1, 0, []), (28, .goto 4, 3, 0, []), (31, .iconst 1, 1, 0, []), (32, .invokevirtual 344, 3, 0, []), (35, .aload_n 0, 1, 0, []), (36, .iload_n 1, 1, 0, []), (37, .ifCond .eq 8, 3, 0, []), (40, .bipush 29, 2, 0, []), (42, .goto 5, 3, 0, []), (45, .bipush 30, 2, 0, []), (47, .aload_n 0, 1, 0, []), (48, .getfield 279, 3, 0, []), (51, .invokevirtual 307, 3, 0, []), (54, .aload_n 0, 1, 0, []), (55, .iload_n 1, 1, 0, []), (56, .ifCond .eq 8, 3, 0, []), (59, .bipush 29, 2, 0, []), (61, .goto 5, 3, 0, []), (64, .bipush 30, 2, 0, []), (66, .iconst 0, 1, 0, []), (67, .invokevirtual 288, 3, 0, []), (70, .aload_n 0, 1, 0, []), (71, .invokevirtual 244, 3, 0, []), (74, .iconst 0, 1, 0, []), (75, .ireturn, 1, 0, []), (76, .aload_n 0, 1, 0, []), (77, .invokevirtual 347, 3, 0, []), (80, .iconst (-1), 1, 0, []), (81, .if_icmp .ne 5, 3, 0, []), (84, .iconst 4, 1, 0, []), (85, .ireturn, 1, 0, []), (86, .aload_n 0, 1, 0, []), (87, .aload_n 0, 1, 0, []), (88, .bipush 41, 2, 0, []), (90, .invokevirtual 313, 3, 0, []), (93, .invokevirtual 275, 3, 0, []), (96, .aload_n 0, 1, 0, []), (97, .getfield 240, 3, 0, []), (100, .ifCond .ne 28, 3, 0, []), (103, .aload_n 0, 1, 0, []), (104, .iconst 1, 1, 0, []), (105, .invokevirtual 344, 3, 0, []), (108, .aload_n 0, 1, 0, []), (109, .dup, 1, 0, []), (110, .getfield 282, 3, 0, []), (113, .iconst 1, 1, 0, []), (114, .isub, 1, 0, []), (115, .putfield 282, 3, 0, []), (118, .aload_n 0, 1, 0, []), (119, .dup, 1, 0, []), (120, .getfield 304, 3, 0, []), (123, .iconst 1, 1, 0, []), (124, .isub, 1, 0, []), (125, .putfield 304, 3, 0, []), (128, .iconst 2, 1, 0, []), (129, .ireturn, 1, 0, [])]
theorem zd_X12_behindTest : ∀ q ∈ zc_X12_behindTest, decode prog_14_method_57_code q.1 = .ok (q.2.1, q.2.2.1) := by decide +kernel
def zc_X12_endText : List (Nat × ClassFile.Instr × Nat × Nat × List (Nat × Int × Nat)) := [(0, .aload_n 0, 1, 0, []), (1, .getfield 240, 3, 0, []), (4, .ifCond .ne 15, 3, 0, []), (7, .aload_n 0, 1, 0, []), (8, .getfield 260, 3, 0, []), (11, .ifCond .eq 8, 3, 0, []), (14, .aload_n 0, 1, 0, []), (15, .iconst 0, 1, 0, []), (16, .invokevirtual 275, 3, 0, []), (19, .aload_n 0, 1, 0, []), (20, .iconst 0, 1, 0, []), (21, .putfield 319, 3, 0, []), (24, .aload_n 0, 1, 0, []), (25, .iconst 0, 1, 0, []), (26, .putfield 228, 3, 0, []), (29, .return_, 1, 0, [])]
theorem zd_X12_endText : ∀ q ∈ zc_X12_endText, decode prog_14_method_60_code q.1 = .ok (q.2.1, q.2.2.1) := by decide +kernel
def zc_X12_force : List (Nat × ClassFile.Instr × Nat × Nat × List (Nat × Int × Nat)) := [(0, .aload_n 0, 1, 0, []), (1, .iconst 0, 1, 0, []), (2, .putfield 161, 3, 0, []), (5, .iload_n 1, 1, 0, []), (6, .iconst (-1), 1, 0, []), (7, .if_icmp .eq 21, 3, 0, []), (10, .iload_n 1, 1, 0, []), (11, .i2l, 1, 0, []), (12, .lconst 0, 1, 0, []), (13, .aload_n 0, 1, 0, []), (14, .getfield 13, 3, 0, []), (17, .iconst 3, 1, 0, []), (18, .iaload, 1, 0, []), (19, .i2l, 1, 0, []), (20, .lconst 1, 1, 0, []), (21, .lsub, 1, 0, []), (22, .invokestatic 181, 3, 0, []), (25, .ifCond .eq 12, 3, 0, []), (28, .aload_n 0, 1, 0, []), (29, .iconst 4, 1, 0, []), (30, .iload_n 1, 1, 0, []), (31, .invokevirtual 196, 3, 0, []), (34, .goto 9, 3, 0, []), (37, .aload_n 0, 1, 0, []), (38, .bipush (-2), 2, 0, []), (40, .invokevirtual 170, 3, 0, []), (43, .ireturn, 1, 0, [])]
theorem zd_X12_force : ∀ q ∈ zc_X12_force, decode prog_14_method_63_code q.1 = .ok (q.2.1, q.2.2.1) := by decide +kernel
def zc_X12_asks : List (Nat × ClassFile.Instr × Nat × Nat × List (Nat × Int × Nat)) := [(0, .aload_n 0, 1, 0, []), (1, .iconst 0, 1, 0, []), (2, .putfield 161, 3, 0, []), (5, .iload_n 1, 1, 0, []), (6, .i2l, 1, 0, []), (7, .lconst 0, 1, 0, []), (8, .ldc2_w 431, 3, 0, []), (11, .invokestatic 181, 3, 0, []), (14, .ifCond .eq 13, 3, 0, []), (17, .iload_n 2, 1, 0, []), (18, .i2l, 1, 0, []), (19, .lconst 0, 1, 0, []), (20, .lconst 1, 1, 0, []), (21, .invokestatic 181, 3, 0, []), (24, .ifCond .ne 7, 3, 0, []), (27, .iconst (-1), 1, 0, []), (28, .goto 20, 3, 0, []), (31, .iload_n 2, 1, 0, []), (32, .ifCond .ne 11, 3, 0, []), (35, .aload_n 0, 1, 0, []), (36, .iload_n 1, 1, 0, []), (37, .invokevirtual 433, 3, 0, []), (40, .goto 8, 3, 0, []), (43, .aload_n 0, 1, 0, []), (44, .iload_n 1, 1, 0, []), (45, .invokevirtual 436, 3, 0, []), (48, .ireturn, 1, 0, [])]
theorem zd_X12_asks : ∀ q ∈ zc_X12_asks, decode prog_14_method_74_code q.1 = .ok (q.2.1, q.2.2.1) := by decide +kernel
def zc_X12_wearsOf : List (Nat × ClassFile.Instr × Nat × Nat × List (Nat × Int × Nat)) := [(0, .aload_n 0, 1, 0, []), (1, .iload_n 1, 1, 0, []), (2, .iconst (-1), 1, 0, []), (3, .iconst (-1), 1, 0, []), (4, .iconst (-1), 1, 0, []), (5, .invokevirtual 417, 3, 0, []), (8, .aload_n 0, 1, 0, []), (9, .iconst 2, 1, 0, []), (10, .iload_n 1, 1, 0, []), (11, .i2l, 1, 0, []), (12, .iload_n 1, 1, 0, []), (13, .i2l, 1, 0, []), (14, .lmul, 1, 0, []), (15, .invokevirtual 423, 3, 0, []), (18, .iconst 0, 1, 0, []), (19, .sipush 999, 3, 0, []), (22, .invokestatic 427, 3, 0, []), (25, .ireturn, 1, 0, [])]
theorem zd_X12_wearsOf : ∀ q ∈ zc_X12_wearsOf, decode prog_14_method_71_code q.1 = .ok (q.2.1, q.2.2.1) := by decide +kernel
def zc_X12_setHour : List (Nat × ClassFile.Instr × Nat × Nat × List (Nat × Int × Nat)) := [(0, .aload_n 0, 1, 0, []), (1, .getfield 101, 3, 0, []), (4, .iconst 1, 1, 0, []), (5, .iload_n 1, 1, 0, []), (6, .i2l, 1, 0, []), (7, .lastore, 1, 0, []), (8, .aload_n 0, 1, 0, []), (9, .getfield 101, 3, 0, []), (12, .iconst 2, 1, 0, []), (13, .iload_n 2, 1, 0, []), (14, .i2l, 1, 0, []), (15, .lastore, 1, 0, []), (16, .aload_n 0, 1, 0, []), (17, .getfield 101, 3, 0, []), (20, .iconst 3, 1, 0, []), (21, .iload_n 3, 1, 0, []), (22, .i2l, 1, 0, []), (23, .lastore, 1, 0, []), (24, .aload_n 0, 1, 0, []), (25, .getfield 101, 3, 0, []), (28, .iconst 4, 1, 0, []), (29, .iload 4, 2, 0, []), (31, .i2l, 1, 0, []), (32, .lastore, 1, 0, []), (33, .aload_n 0, 1, 0, []), (34, .getfield 101, 3, 0, []), (37, .iconst 5, 1, 0, []), (38, .iload 4, 2, 0, []), (40, .iconst (-1), 1, 0, []), (41, .if_icmp .ne 9, 3, 0, []), (44, .ldc2_w 267, 3, 0, []), (47, .goto 11, 3, 0, []), (50, .aload_n 0, 1, 0, []), (51, .iload 4, 2, 0, []), (53, .iconst 0, 1, 0, []), (54, .invokevirtual 207, 3, 0, []), (57, .i2l, 1, 0, []), (58, .lastore, 1, 0, []), (59, .aload_n 0, 1, 0, []), (60, .getfield 101, 3, 0, []), (63, .bipush 6, 2, 0, []), (65, .iload 4, 2, 0, []), (67, .iconst (-1), 1, 0, []), (68, .if_icmp .ne 9, 3, 0, []), (71, .ldc2_w 267, 3, 0, []), (74, .goto 11, 3, 0, []), (77, .aload_n 0, 1, 0, []), (78, .iload 4, 2, 0, []), (80, .iconst 2, 1, 0, []), (81, .invokevirtual 207, 3, 0, []), (84, .i2l, 1, 0, []), (85, .lastore, 1, 0, []), (86, .return_, 1, 0, [])]
theorem zd_X12_setHour : ∀ q ∈ zc_X12_setHour, decode prog_14_method_68_code q.1 = .ok (q.2.1, q.2.2.1) := by decide +kernel
def zc_X12_tells : List (Nat × ClassFile.Instr × Nat × Nat × List (Nat × Int × Nat)) := [(0, .aload_n 0, 1, 0, []), (1, .getfield 13, 3, 0, []), (4, .iconst 4, 1, 0, []), (5, .iaload, 1, 0, []), (6, .iconst (-1), 1, 0, []), (7, .if_icmp .ne 5, 3, 0, []), (10, .lload_n 2, 1, 0, []), (11, .lreturn, 1, 0, []), (12, .aload_n 0, 1, 0, []), (13, .sipush 180, 3, 0, []), (16, .sipush 900, 3, 0, []), (19, .aload_n 0, 1, 0, []), (20, .getfield 13, 3, 0, []), (23, .iconst 4, 1, 0, []), (24, .iaload, 1, 0, []), (25, .imul, 1, 0, []), (26, .iadd, 1, 0, []), (27, .putfield 391, 3, 0, []), (30, .aload_n 0, 1, 0, []), (31, .getfield 101, 3, 0, []), (34, .bipush 7, 2, 0, []), (36, .aload_n 0, 1, 0, []), (37, .getfield 13, 3, 0, []), (40, .bipush 8, 2, 0, []), (42, .iaload, 1, 0, []), (43, .i2l, 1, 0, []), (44, .lastore, 1, 0, []), (45, .aload_n 0, 1, 0, []), (46, .getfield 101, 3, 0, []), (49, .bipush 8, 2, 0, []), (51, .aload_n 0, 1, 0, []), (52, .invokevirtual 411, 3, 0, []), (55, .i2l, 1, 0, []), (56, .lastore, 1, 0, []), (57, .aload_n 0, 1, 0, []), (58, .getfield 101, 3, 0, []), (61, .bipush 9, 2, 0, []), (63, .aload_n 0, 1, 0, []), (64, .getfield 13, 3, 0, []), (67, .bipush 7, 2, 0, []), (69, .iaload, 1, 0, []), (70, .i2l, 1, 0, []), (71, .lastore, 1, 0, []), (72, .lload_n 2, 1, 0, []), (73, .lstore 4, 2, 0, []), (75, .iconst 0, 1, 0, []), (76, .istore 6, 2, 0, []), (78, .iload 6, 2, 0, []), (80, .aload_n 0, 1, 0, []), (81, .getfield 13, 3, 0, []), (84, .aload_n 0, 1, 0, []), (85, .getfield 391, 3, 0, []), (88, .iconst 1, 1, 0, []), (89, .iadd, 1, 0, []), (90, .iaload, 1, 0, []), (91, .if_icmp .ge 58, 3, 0, []), (94, .aload_n 0, 1, 0, []), (95, .getfield 391, 3, 0, []), (98, .iconst 2, 1, 0, []), (99, .iadd, 1, 0, []), (100, .bipush 8, 2, 0, []), (102, .iload 6, 2, 0, []), (104, .imul, 1, 0, []), (105, .iadd, 1, 0, []), (106, .istore 7, 2, 0, []), (108, .aload_n 0, 1, 0, []), (109, .getfield 13, 3, 0, []), (112, .iload 7, 2, 0, []), (114, .iaload, 1, 0, []), (115, .iload_n 1, 1, 0, []), (116, .if_icmp .ne 27, 3, 0, []), (119, .aload_n 0, 1, 0, []), (120, .iload 7, 2, 0, []), (122, .invokevirtual 414, 3, 0, []), (125, .ifCond .eq 18, 3, 0, []), (128, .iload_n 1, 1, 0, []), (129, .iconst 4, 1, 0, []), (130, .if_icmp .ne 7, 3, 0, []), (133, .lconst 1, 1, 0, []), (134, .goto 7, 3, 0, []), (137, .aload_n 0, 1, 0, []), (138, .getfield 408, 3, 0, []), (141, .lstore 4, 2, 0, []), (143, .iinc 6 1, 3, 0, []), (146, .goto (-68), 3, 0, []), (149, .lload 4, 2, 0, []), (151, .lreturn, 1, 0, [])]
theorem zd_X12_tells : ∀ q ∈ zc_X12_tells, decode prog_14_method_67_code q.1 = .ok (q.2.1, q.2.2.1) := by decide +kernel
def zc_X12_today : List (Nat × ClassFile.Instr × Nat × Nat × List (Nat × Int × Nat)) := [(0, .aload_n 0, 1, 0, []), (1, .getfield 13, 3, 0, []), (4, .iconst 5, 1, 0, []), (5, .iaload, 1, 0, []), (6, .ireturn, 1, 0, [])]
theorem zd_X12_today : ∀ q ∈ zc_X12_today, decode prog_14_method_16_code q.1 = .ok (q.2.1, q.2.2.1) := by decide +kernel
def zc_X12_isSo : List (Nat × ClassFile.Instr × Nat × Nat × List (Nat × Int × Nat)) := [(0, .aload_n 0, 1, 0, []), (1, .getfield 13, 3, 0, []), (4, .iload_n 1, 1, 0, []), (5, .iconst 5, 1, 0, []), (6, .iadd, 1, 0, []), (7, .iaload, 1, 0, []), (8, .aload_n 0, 1, 0, []), (9, .getfield 13, 3, 0, []), (12, .iload_n 1, 1, 0, []), (13, .bipush 6, 2, 0, []), (15, .iadd, 1, 0, []), (16, .iaload, 1, 0, []), (17, .if_icmp .ge 42, 3, 0, []), (20, .aload_n 0, 1, 0, []), (21, .aload_n 0, 1, 0, []), (22, .getfield 13, 3, 0, []), (25, .iload_n 1, 1, 0, []), (26, .iconst 5, 1, 0, []), (27, .iadd, 1, 0, []), (28, .iaload, 1, 0, []), (29, .aload_n 0, 1, 0, []), (30, .getfield 13, 3, 0, []), (33, .iload_n 1, 1, 0, []), (34, .bipush 6, 2, 0, []), (36, .iadd, 1, 0, []), (37, .iaload, 1, 0, []), (38, .invokevirtual 405, 3, 0, []), (41, .aload_n 0, 1, 0, []), (42, .getfield 388, 3, 0, []), (45, .ifCond .ne 12, 3, 0, []), (48, .aload_n 0, 1, 0, []), (49, .getfield 402, 3, 0, []), (52, .lconst 0, 1, 0, []), (53, .lcmp, 1, 0, []), (54, .ifCond .ne 5, 3, 0, []), (57, .iconst 0, 1, 0, []), (58, .ireturn, 1, 0, []), (59, .aload_n 0, 1, 0, []), (60, .getfield 13, 3, 0, []), (63, .iload_n 1, 1, 0, []), (64, .iaload, 1, 0, []), (65, .iconst 4, 1, 0, []), (66, .if_icmp .eq 44, 3, 0, []), (69, .aload_n 0, 1, 0, []), (70, .aload_n 0, 1, 0, []), (71, .getfield 13, 3, 0, []), (74, .iload_n 1, 1, 0, []), (75, .iconst 3, 1, 0, []), (76, .iadd, 1, 0, []), (77, .iaload, 1, 0, []), (78, .aload_n 0, 1, 0, []), (79, .getfield 13, 3, 0, []), (82, .iload_n 1, 1, 0, []), (83, .iconst 4, 1, 0, []), (84, .iadd, 1, 0, []), (85, .iaload, 1, 0, []), (86, .invokevirtual 405, 3, 0, []), (89, .aload_n 0, 1, 0, []), (90, .aload_n 0, 1, 0, []), (91, .getfield 402, 3, 0, []), (94, .putfield 408, 3, 0, []), (97, .aload_n 0, 1, 0, []), (98, .getfield 388, 3, 0, []), (101, .ifCond .ne 7, 3, 0, []), (104, .iconst 1, 1, 0, []), (105, .goto 4, 3, 0, []), (108, .iconst 0, 1, 0, []), (109, .ireturn, 1, 0, []), (110, .iconst 1, 1, 0, []), (111, .ireturn, 1, 0, [])]
theorem zd_X12_isSo : ∀ q ∈ zc_X12_isSo, decode prog_14_method_66_code q.1 = .ok (q.2.1, q.2.2.1) := by decide +kernel
def zc_X12_reckonAll : List (Nat × ClassFile.Instr × Nat × Nat × List (Nat × Int × Nat)) := [(0, .aload_n 0, 1, 0, []), (1, .iconst 0, 1, 0, []), (2, .putfield 388, 3, 0, []), (5, .iconst 0, 1, 0, []), (6, .istore_n 3, 1, 0, []), (7, .iload_n 1, 1, 0, []), (8, .istore 4, 2, 0, []), (10, .iload 4, 2, 0, []), (12, .iload_n 2, 1, 0, []), (13, .if_icmp .ge 358, 3, 0, []), (16, .aload_n 0, 1, 0, []), (17, .getfield 388, 3, 0, []), (20, .ifCond .ne 351, 3, 0, []), (23, .aload_n 0, 1, 0, []), (24, .getfield 319, 3, 0, []), (27, .ifCond .eq 13, 3, 0, []), (30, .aload_n 0, 1, 0, []), (31, .getfield 45, 3, 0, []), (34, .iload 4, 2, 0, []), (36, .iaload, 1, 0, []), (37, .goto 20, 3, 0, []), (40, .aload_n 0, 1, 0, []), (41, .getfield 13, 3, 0, []), (44, .aload_n 0, 1, 0, []), (45, .getfield 391, 3, 0, []), (48, .bipush 98, 2, 0, []), (50, .iadd, 1, 0, []), (51, .iconst 2, 1, 0, []), (52, .iload 4, 2, 0, []), (54, .imul, 1, 0, []), (55, .iadd, 1, 0, []), (56, .iaload, 1, 0, []), (57, .istore 5, 2, 0, []), (59, .aload_n 0, 1, 0, []), (60, .getfield 319, 3, 0, []), (63, .ifCond .eq 13, 3, 0, []), (66, .aload_n 0, 1, 0, []), (67, .getfield 48, 3, 0, []), (70, .iload 4, 2, 0, []), (72, .iaload, 1, 0, []), (73, .goto 22, 3, 0, []), (76, .aload_n 0, 1, 0, []), (77, .getfield 13, 3, 0, []), (80, .aload_n 0, 1, 0, []), (81, .getfield 391, 3, 0, []), (84, .bipush 98, 2, 0, []), (86, .iadd, 1, 0, []), (87, .iconst 2, 1, 0, []), (88, .iload 4, 2, 0, []), (90, .imul, 1, 0, []), (91, .iadd, 1, 0, []), (92, .iconst 1, 1, 0, []), (93, .iadd, 1, 0, []), (94, .iaload, 1, 0, []), (95, .istore 6, 2, 0, []), (97, .iinc 4 1, 3, 0, []), (100, .iload 5, 2, 0, []), (102, .bipush 20, 2, 0, []), (104, .if_icmp .ge 125, 3, 0, []), (107, .aload_n 0, 1, 0, []), (108, .getfield 107, 3, 0, []), (111, .iload_n 3, 1, 0, []), (112, .iload 5, 2, 0, []), (114, .ifCond .ne 9, 3, 0, []), (117, .iload 6, 2, 0, []), (119, .i2l, 1, 0, []), (120, .goto 102, 3, 0, []), (123, .aload_n 0, 1, 0, []), (124, .getfield 319, 3, 0, []), (127, .ifCond .ne 13, 3, 0, []), (130, .aload_n 0, 1, 0, []), (131, .getfield 101, 3, 0, []), (134, .iload 5, 2, 0, []), (136, .laload, 1, 0, []), (137, .goto 85, 3, 0, []), (140, .iload 5, 2, 0, []), (142, .bipush 6, 2, 0, []), (144, .if_icmp .ge 13, 3, 0, []), (147, .aload_n 0, 1, 0, []), (148, .getfield 104, 3, 0, []), (151, .iload 5, 2, 0, []), (153, .laload, 1, 0, []), (154, .goto 68, 3, 0, []), (157, .iload 5, 2, 0, []), (159, .bipush 6, 2, 0, []), (161, .if_icmp .ne 27, 3, 0, []), (164, .aload_n 0, 1, 0, []), (165, .iload 6, 2, 0, []), (167, .invokevirtual 201, 3, 0, []), (170, .ifCond .eq 13, 3, 0, []), (173, .aload_n 0, 1, 0, []), (174, .iload 6, 2, 0, []), (176, .iconst 2, 1, 0, []), (177, .invokevirtual 207, 3, 0, []), (180, .goto 4, 3, 0, []), (183, .iconst (-1), 1, 0, []), (184, .i2l, 1, 0, []), (185, .goto 37, 3, 0, []), (188, .aload_n 0, 1, 0, []), (189, .iload 6, 2, 0, []), (191, .invokevirtual 217, 3, 0, []), (194, .ifCond .eq 25, 3, 0, []), (197, .aload_n 0, 1, 0, []), (198, .iload 6, 2, 0, []), (200, .iconst 1, 1, 0, []), (201, .invokevirtual 188, 3, 0, []), (204, .aload_n 0, 1, 0, []), (205, .getfield 13, 3, 0, []), (208, .bipush 29, 2, 0, []), (210, .iload 6, 2, 0, []), (212, .iadd, 1, 0, []), (213, .iaload, 1, 0, []), (214, .isub, 1, 0, []), (215, .i2l, 1, 0, []), (216, .goto 6, 3, 0, []), (219, .ldc2_w 267, 3, 0, []), (222, .lastore, 1, 0, []), (223, .iinc 3 1, 3, 0, []), (226, .goto 142, 3, 0, []), (229, .iload 5, 2, 0, []), (231, .bipush 28, 2, 0, []), (233, .if_icmp .ge 73, 3, 0, []), (236, .iinc 3 (-1), 3, 0, []), (239, .aload_n 0, 1, 0, []), (240, .getfield 107, 3, 0, []), (243, .iload_n 3, 1, 0, []), (244, .iconst 1, 1, 0, []), (245, .isub, 1, 0, []), (246, .aload_n 0, 1, 0, []), (247, .iload 5, 2, 0, []), (249, .aload_n 0, 1, 0, []), (250, .getfield 107, 3, 0, []), (253, .iload_n 3, 1, 0, []), (254, .iconst 1, 1, 0, []), (255, .isub, 1, 0, []), (256, .laload, 1, 0, []), (257, .aload_n 0, 1, 0, []), (258, .getfield 107, 3, 0, []), (261, .iload_n 3, 1, 0, []), (262, .laload, 1, 0, []), (263, .invokevirtual 394, 3, 0, []), (266, .lastore, 1, 0, []), (267, .aload_n 0, 1, 0, []), (268, .aload_n 0, 1, 0, []), (269, .getfield 388, 3, 0, []), (272, .ifCond .ne 23, 3, 0, []), (275, .aload_n 0, 1, 0, []), (276, .getfield 107, 3, 0, []), (279, .iload_n 3, 1, 0, []), (280, .iconst 1, 1, 0, []), (281, .isub, 1, 0, []), (282, .laload, 1, 0, []), (283, .ldc2_w 398, 3, 0, []), (286, .ldc2_w 400, 3, 0, []), (289, .invokestatic 181, 3, 0, []), (292, .ifCond .ne 7, 3, 0, []), (295, .iconst 1, 1, 0, []), (296, .goto 4, 3, 0, []), (299, .iconst 0, 1, 0, []), (300, .putfield 388, 3, 0, []), (303, .goto 65, 3, 0, []), (306, .iload 5, 2, 0, []), (308, .bipush 28, 2, 0, []), (310, .if_icmp .ne 24, 3, 0, []), (313, .aload_n 0, 1, 0, []), (314, .getfield 107, 3, 0, []), (317, .iload_n 3, 1, 0, []), (318, .iconst 1, 1, 0, []), (319, .isub, 1, 0, []), (320, .lconst 1, 1, 0, []), (321, .aload_n 0, 1, 0, []), (322, .getfield 107, 3, 0, []), (325, .iload_n 3, 1, 0, []), (326, .iconst 1, 1, 0, []), (327, .isub, 1, 0, []), (328, .laload, 1, 0, []), (329, .lsub, 1, 0, []), (330, .lastore, 1, 0, []), (331, .goto 37, 3, 0, []), (334, .aload_n 0, 1, 0, []), (335, .getfield 107, 3, 0, []), (338, .iload_n 3, 1, 0, []), (339, .iconst 1, 1, 0, []), (340, .isub, 1, 0, []), (341, .laload, 1, 0, []), (342, .iload 5, 2, 0, []), (344, .bipush 29, 2, 0, []), (346, .if_icmp .ne 7, 3, 0, []), (349, .lconst 0, 1, 0, []), (350, .goto 4, 3, 0, []), (353, .lconst 1, 1, 0, []), (354, .lcmp, 1, 0, []), (355, .ifCond .ne 10, 3, 0, []), (358, .iload 6, 2, 0, []), (360, .istore 4, 2, 0, []), (362, .goto 6, 3, 0, []), (365, .iinc 3 (-1), 3, 0, []), (368, .goto (-358), 3, 0, []), (371, .aload_n 0, 1, 0, []), (372, .iload_n 3, 1, 0, []), (373, .ifCond .le 12, 3, 0, []), (376, .aload_n 0, 1, 0, []), (377, .getfield 107, 3, 0, []), (380, .iconst 0, 1, 0, []), (381, .laload, 1, 0, []), (382, .goto 4, 3, 0, []), (385, .lconst 0, 1, 0, []), (386, .putfield 402, 3, 0, []), (389, .return_, 1, 0, [])]
theorem zd_X12_reckonAll : ∀ q ∈ zc_X12_reckonAll, decode prog_14_method_65_code q.1 = .ok (q.2.1, q.2.2.1) := by decide +kernel
def zc_X12_reckon : List (Nat × ClassFile.Instr × Nat × Nat × List (Nat × Int × Nat)) := [(0, .iload_n 1, 1, 0, []), (1, .tableswitch 148 20 26 #[43, 48, 53, 58, 90, 122, 135], 43, 0, []), (44, .lload_n 2, 1, 0, []), (45, .lload 4, 2, 0, []), (47, .ladd, 1, 0, []), (48, .lreturn, 1, 0, []), (49, .lload_n 2, 1, 0, []), (50, .lload 4, 2, 0, []), (52, .lsub, 1, 0, []), (53, .lreturn, 1, 0, []), (54, .lload_n 2, 1, 0, []), (55, .lload 4, 2, 0, []), (57, .lmul, 1, 0, []), (58, .lreturn, 1, 0, []), (59, .aload_n 0, 1, 0, []), (60, .lload 4, 2, 0, []), (62, .lconst 0, 1, 0, []), (63, .lcmp, 1, 0, []), (64, .ifCond .ne 7, 3, 0, []), (67, .iconst 1, 1, 0, []), (68, .goto 4, 3, 0, []), (71, .iconst 0, 1, 0, []), (72, .putfield 388, 3, 0, []), (75, .aload_n 0, 1, 0, []), (76, .getfield 388, 3, 0, []), (79, .ifCond .eq 7, 3, 0, []), (82, .lconst 0, 1, 0, []), (83, .goto 7, 3, 0, []), (86, .lload_n 2, 1, 0, []), (87, .lload 4, 2, 0, []), (89, .ldiv, 1, 0, []), (90, .lreturn, 1, 0, []), (91, .aload_n 0, 1, 0, []), (92, .lload 4, 2, 0, []), (94, .lconst 0, 1, 0, []), (95, .lcmp, 1, 0, []), (96, .ifCond .ne 7, 3, 0, []), (99, .iconst 1, 1, 0, []), (100, .goto 4, 3, 0, []), (103, .iconst 0, 1, 0, []), (104, .putfield 388, 3, 0, []), (107, .aload_n 0, 1, 0, []), (108, .getfield 388, 3, 0, []), (111, .ifCond .eq 7, 3, 0, []), (114, .lconst 0, 1, 0, []), (115, .goto 7, 3, 0, []), (118, .lload_n 2, 1, 0, []), (119, .lload 4, 2, 0, []), (121, .lrem, 1, 0, []), (122, .lreturn, 1, 0, []), (123, .lload_n 2, 1, 0, []), (124, .lload 4, 2, 0, []), (126, .lcmp, 1, 0, []), (127, .ifCond .ge 7, 3, 0, []), (130, .lconst 1, 1, 0, []), (131, .goto 4, 3, 0, []), (134, .lconst 0, 1, 0, []), (135, .lreturn, 1, 0, []), (136, .lload_n 2, 1, 0, []), (137, .lload 4, 2, 0, []), (139, .lcmp, 1, 0, []), (140, .ifCond .le 7, 3, 0, []), (143, .lconst 1, 1, 0, []), (144, .goto 4, 3, 0, []), (147, .lconst 0, 1, 0, []), (148, .lreturn, 1, 0, []), (149, .lload_n 2, 1, 0, []), (150, .lload 4, 2, 0, []), (152, .lcmp, 1, 0, []), (153, .ifCond .ne 7, 3, 0, []), (156, .lconst 1, 1, 0, []), (157, .goto 4, 3, 0, []), (160, .lconst 0, 1, 0, []), (161, .lreturn, 1, 0, [])]
theorem zd_X12_reckon : ∀ q ∈ zc_X12_reckon, decode prog_14_method_64_code q.1 = .ok (q.2.1, q.2.2.1) := by decide +kernel
def zc_X12_within : List (Nat × ClassFile.Instr × Nat × Nat × List (Nat × Int × Nat)) := [(0, .lload_n 0, 1, 0, []), (1, .iload_n 2, 1, 0, []), (2, .i2l, 1, 0, []), (3, .lcmp, 1, 0, []), (4, .ifCond .ge 7, 3, 0, []), (7, .iload_n 2, 1, 0, []), (8, .goto 16, 3, 0, []), (11, .lload_n 0, 1, 0, []), (12, .iload_n 3, 1, 0, []), (13, .i2l, 1, 0, []), (14, .lcmp, 1, 0, []), (15, .ifCond .le 7, 3, 0, []), (18, .iload_n 3, 1, 0, []), (19, .goto 5, 3, 0, []), (22, .lload_n 0, 1, 0, []), (23, .l2i, 1, 0, []), (24, .ireturn, 1, 0, [])]
theorem zd_X12_within : ∀ q ∈ zc_X12_within, decode prog_14_method_6_code q.1 = .ok (q.2.1, q.2.2.1) := by decide +kernel
def zc_X12_snapsOf : List (Nat × ClassFile.Instr × Nat × Nat × List (Nat × Int × Nat)) := [(0, .aload_n 0, 1, 0, []), (1, .iload_n 1, 1, 0, []), (2, .iconst (-1), 1, 0, []), (3, .iconst (-1), 1, 0, []), (4, .iconst (-1), 1, 0, []), (5, .invokevirtual 417, 3, 0, []), (8, .aload_n 0, 1, 0, []), (9, .iconst 3, 1, 0, []), (10, .iload_n 1, 1, 0, []), (11, .bipush 9, 2, 0, []), (13, .if_icmp .le 15, 3, 0, []), (16, .ldc2_w 271, 3, 0, []), (19, .iload_n 1, 1, 0, []), (20, .bipush 9, 2, 0, []), (22, .isub, 1, 0, []), (23, .i2l, 1, 0, []), (24, .lmul, 1, 0, []), (25, .goto 4, 3, 0, []), (28, .lconst 0, 1, 0, []), (29, .invokevirtual 423, 3, 0, []), (32, .iconst 0, 1, 0, []), (33, .bipush 100, 2, 0, []), (35, .invokestatic 427, 3, 0, []), (38, .ireturn, 1, 0, [])]
theorem zd_X12_snapsOf : ∀ q ∈ zc_X12_snapsOf, decode prog_14_method_72_code q.1 = .ok (q.2.1, q.2.2.1) := by decide +kernel
def zc_X12_hour : List (Nat × ClassFile.Instr × Nat × Nat × List (Nat × Int × Nat)) := [(0, .aload_n 0, 1, 0, []), (1, .iconst 0, 1, 0, []), (2, .putfield 161, 3, 0, []), (5, .iload_n 1, 1, 0, []), (6, .i2l, 1, 0, []), (7, .lconst 0, 1, 0, []), (8, .ldc2_w 431, 3, 0, []), (11, .invokestatic 181, 3, 0, []), (14, .ifCond .eq 31, 3, 0, []), (17, .iload_n 2, 1, 0, []), (18, .i2l, 1, 0, []), (19, .lconst 0, 1, 0, []), (20, .ldc2_w 215, 3, 0, []), (23, .invokestatic 181, 3, 0, []), (26, .ifCond .eq 19, 3, 0, []), (29, .iload_n 3, 1, 0, []), (30, .i2l, 1, 0, []), (31, .lconst 0, 1, 0, []), (32, .aload_n 0, 1, 0, []), (33, .getfield 13, 3, 0, []), (36, .iconst 0, 1, 0, []), (37, .iaload, 1, 0, []), (38, .i2l, 1, 0, []), (39, .invokestatic 181, 3, 0, []), (42, .ifCond .ne 5, 3, 0, []), (45, .iconst (-1), 1, 0, []), (46, .ireturn, 1, 0, []), (47, .aload_n 0, 1, 0, []), (48, .iload_n 1, 1, 0, []), (49, .invokevirtual 457, 3, 0, []), (52, .iload_n 3, 1, 0, []), (53, .ifCond .ne 12, 3, 0, []), (56, .aload_n 0, 1, 0, []), (57, .getfield 110, 3, 0, []), (60, .iload_n 2, 1, 0, []), (61, .iaload, 1, 0, []), (62, .goto 16, 3, 0, []), (65, .aload_n 0, 1, 0, []), (66, .getfield 113, 3, 0, []), (69, .bipush 6, 2, 0, []), (71, .iload_n 2, 1, 0, []), (72, .imul, 1, 0, []), (73, .iload_n 3, 1, 0, []), (74, .iadd, 1, 0, []), (75, .iconst 1, 1, 0, []), (76, .isub, 1, 0, []), (77, .iaload, 1, 0, []), (78, .ireturn, 1, 0, [])]
theorem zd_X12_hour : ∀ q ∈ zc_X12_hour, decode prog_14_method_79_code q.1 = .ok (q.2.1, q.2.2.1) := by decide +kernel
def zc_X12_layDay : List (Nat × ClassFile.Instr × Nat × Nat × List (Nat × Int × Nat)) := [(0, .bipush 100, 2, 0, []), (2, .iload_n 1, 1, 0, []), (3, .imul, 1, 0, []), (4, .istore_n 2, 1, 0, []), (5, .aload_n 0, 1, 0, []), (6, .getfield 13, 3, 0, []), (9, .iconst 1, 1, 0, []), (10, .iaload, 1, 0, []), (11, .istore_n 3, 1, 0, []), (12, .iconst 0, 1, 0, []), (13, .istore 4, 2, 0, []), (15, .iload 4, 2, 0, []), (17, .iload_n 3, 1, 0, []), (18, .if_icmp .ge 34, 3, 0, []), (21, .aload_n 0, 1, 0, []), (22, .getfield 119, 3, 0, []), (25, .iload 4, 2, 0, []), (27, .aload_n 0, 1, 0, []), (28, .getfield 13, 3, 0, []), (31, .bipush 29, 2, 0, []), (33, .iload 4, 2, 0, []), (35, .iadd, 1, 0, []), (36, .iaload, 1, 0, []), (37, .iastore, 1, 0, []), (38, .aload_n 0, 1, 0, []), (39, .getfield 122, 3, 0, []), (42, .iload 4, 2, 0, []), (44, .iconst (-1), 1, 0, []), (45, .iastore, 1, 0, []), (46, .iinc 4 1, 3, 0, []), (49, .goto (-34), 3, 0, []), (52, .iconst 0, 1, 0, []), (53, .istore 4, 2, 0, []), (55, .iload 4, 2, 0, []), (57, .bipush 24, 2, 0, []), (59, .if_icmp .ge 250, 3, 0, []), (62, .aload_n 0, 1, 0, []), (63, .getfield 110, 3, 0, []), (66, .iload 4, 2, 0, []), (68, .iload_n 2, 1, 0, []), (69, .iastore, 1, 0, []), (70, .iconst 0, 1, 0, []), (71, .istore 5, 2, 0, []), (73, .iload 5, 2, 0, []), (75, .iload_n 3, 1, 0, []), (76, .if_icmp .ge 53, 3, 0, []), (79, .aload_n 0, 1, 0, []), (80, .iload 5, 2, 0, []), (82, .iconst 4, 1, 0, []), (83, .invokevirtual 188, 3, 0, []), (86, .istore 6, 2, 0, []), (88, .aload_n 0, 1, 0, []), (89, .getfield 125, 3, 0, []), (92, .iload 5, 2, 0, []), (94, .iload 6, 2, 0, []), (96, .iconst (-1), 1, 0, []), (97, .if_icmp .eq 20, 3, 0, []), (100, .aload_n 0, 1, 0, []), (101, .getfield 119, 3, 0, []), (104, .iload 6, 2, 0, []), (106, .iaload, 1, 0, []), (107, .aload_n 0, 1, 0, []), (108, .iload 6, 2, 0, []), (110, .iconst 1, 1, 0, []), (111, .invokevirtual 188, 3, 0, []), (114, .if_icmp .ne 7, 3, 0, []), (117, .iconst 1, 1, 0, []), (118, .goto 4, 3, 0, []), (121, .iconst 0, 1, 0, []), (122, .bastore, 1, 0, []), (123, .iinc 5 1, 3, 0, []), (126, .goto (-53), 3, 0, []), (129, .iconst 0, 1, 0, []), (130, .istore 5, 2, 0, []), (132, .iload 5, 2, 0, []), (134, .aload_n 0, 1, 0, []), (135, .getfield 13, 3, 0, []), (138, .iconst 0, 1, 0, []), (139, .iaload, 1, 0, []), (140, .if_icmp .ge 109, 3, 0, []), (143, .aload_n 0, 1, 0, []), (144, .iload_n 1, 1, 0, []), (145, .iload_n 2, 1, 0, []), (146, .iload 4, 2, 0, []), (148, .iload 5, 2, 0, []), (150, .invokevirtual 445, 3, 0, []), (153, .istore 6, 2, 0, []), (155, .aload_n 0, 1, 0, []), (156, .iload 5, 2, 0, []), (158, .invokevirtual 449, 3, 0, []), (161, .istore 7, 2, 0, []), (163, .aload_n 0, 1, 0, []), (164, .getfield 113, 3, 0, []), (167, .bipush 6, 2, 0, []), (169, .iload 4, 2, 0, []), (171, .imul, 1, 0, []), (172, .iload 5, 2, 0, []), (174, .iadd, 1, 0, []), (175, .iload 6, 2, 0, []), (177, .iastore, 1, 0, []), (178, .iload 7, 2, 0, []), (180, .iconst (-1), 1, 0, []), (181, .if_icmp .eq 62, 3, 0, []), (184, .aload_n 0, 1, 0, []), (185, .getfield 119, 3, 0, []), (188, .iload 7, 2, 0, []), (190, .aload_n 0, 1, 0, []), (191, .getfield 119, 3, 0, []), (194, .iload 7, 2, 0, []), (196, .iaload, 1, 0, []), (197, .iload 6, 2, 0, []), (199, .iadd, 1, 0, []), (200, .i2l, 1, 0, []), (201, .iconst 0, 1, 0, []), (202, .aload_n 0, 1, 0, []), (203, .iload 7, 2, 0, []), (205, .iconst 1, 1, 0, []), (206, .invokevirtual 188, 3, 0, []), (209, .invokestatic 427, 3, 0, []), (212, .iastore, 1, 0, []), (213, .aload_n 0, 1, 0, []), (214, .getfield 122, 3, 0, []), (217, .iload 7, 2, 0, []), (219, .aload_n 0, 1, 0, []), (220, .getfield 119, 3, 0, []), (223, .iload 7, 2, 0, []), (225, .iaload, 1, 0, []), (226, .aload_n 0, 1, 0, []), (227, .iload 7, 2, 0, []), (229, .iconst 1, 1, 0, []), (230, .invokevirtual 188, 3, 0, []), (233, .if_icmp .ne 8, 3, 0, []), (236, .iload 4, 2, 0, []), (238, .goto 4, 3, 0, []), (241, .iconst (-1), 1, 0, []), (242, .iastore, 1, 0, []), (243, .iinc 5 1, 3, 0, []), (246, .goto (-114), 3, 0, []), (249, .iload_n 2, 1, 0, []), (250, .aload_n 0, 1, 0, []), (251, .iload_n 1, 1, 0, []), (252, .iload_n 2, 1, 0, []), (253, .iload 4, 2, 0, []), (255, .invokevirtual 452, 3, 0, []), (258, .isub, 1, 0, []), (259, .i2l, 1, 0, []), (260, .iconst 0, 1, 0, []), (261, .ldc_w 456, 3, 0, []), (264, .invokestatic 427, 3, 0, []), (267, .istore_n 2, 1, 0, []), (268, .iconst 0, 1, 0, []), (269, .istore 5, 2, 0, []), (271, .iload 5, 2, 0, []), (273, .iload_n 3, 1, 0, []), (274, .if_icmp .ge 29, 3, 0, []), (277, .aload_n 0, 1, 0, []), (278, .getfield 116, 3, 0, []), (281, .bipush 10, 2, 0, []), (283, .iload 4, 2, 0, []), (285, .imul, 1, 0, []), (286, .iload 5, 2, 0, []), (288, .iadd, 1, 0, []), (289, .aload_n 0, 1, 0, []), (290, .getfield 119, 3, 0, []), (293, .iload 5, 2, 0, []), (295, .iaload, 1, 0, []), (296, .iastore, 1, 0, []), (297, .iinc 5 1, 3, 0, []), (300, .goto (-29), 3, 0, []), (303, .iinc 4 1, 3, 0, []), (306, .goto (-251), 3, 0, []), (309, .return_, 1, 0, [])]
theorem zd_X12_layDay : ∀ q ∈ zc_X12_layDay, decode prog_14_method_77_code q.1 = .ok (q.2.1, q.2.2.1) := by decide +kernel
def zc_X12_speedsOf : List (Nat × ClassFile.Instr × Nat × Nat × List (Nat × Int × Nat)) := [(0, .aload_n 0, 1, 0, []), (1, .iload_n 1, 1, 0, []), (2, .iload_n 2, 1, 0, []), (3, .iload_n 3, 1, 0, []), (4, .iload 4, 2, 0, []), (6, .invokevirtual 417, 3, 0, []), (9, .aload_n 0, 1, 0, []), (10, .iconst 1, 1, 0, []), (11, .iload_n 2, 1, 0, []), (12, .bipush 10, 2, 0, []), (14, .idiv, 1, 0, []), (15, .i2l, 1, 0, []), (16, .ldc2_w 224, 3, 0, []), (19, .aload_n 0, 1, 0, []), (20, .iload 4, 2, 0, []), (22, .iconst 2, 1, 0, []), (23, .invokevirtual 207, 3, 0, []), (26, .i2l, 1, 0, []), (27, .lmul, 1, 0, []), (28, .ladd, 1, 0, []), (29, .invokevirtual 423, 3, 0, []), (32, .iconst 0, 1, 0, []), (33, .bipush 60, 2, 0, []), (35, .invokestatic 427, 3, 0, []), (38, .ireturn, 1, 0, [])]
theorem zd_X12_speedsOf : ∀ q ∈ zc_X12_speedsOf, decode prog_14_method_70_code q.1 = .ok (q.2.1, q.2.2.1) := by decide +kernel
def zc_X12_pick : List (Nat × ClassFile.Instr × Nat × Nat × List (Nat × Int × Nat)) := [(0, .iload_n 1, 1, 0, []), (1, .aload_n 0, 1, 0, []), (2, .getfield 128, 3, 0, []), (5, .if_icmp .ne 41, 3, 0, []), (8, .iconst 0, 1, 0, []), (9, .istore_n 2, 1, 0, []), (10, .iload_n 2, 1, 0, []), (11, .aload_n 0, 1, 0, []), (12, .getfield 439, 3, 0, []), (15, .if_icmp .ge 29, 3, 0, []), (18, .aload_n 0, 1, 0, []), (19, .aload_n 0, 1, 0, []), (20, .getfield 131, 3, 0, []), (23, .iload_n 2, 1, 0, []), (24, .iaload, 1, 0, []), (25, .invokevirtual 442, 3, 0, []), (28, .ifCond .eq 10, 3, 0, []), (31, .aload_n 0, 1, 0, []), (32, .getfield 131, 3, 0, []), (35, .iload_n 2, 1, 0, []), (36, .iaload, 1, 0, []), (37, .ireturn, 1, 0, []), (38, .iinc 2 1, 3, 0, []), (41, .goto (-31), 3, 0, []), (44, .iconst (-1), 1, 0, []), (45, .ireturn, 1, 0, []), (46, .iconst 0, 1, 0, []), (47, .istore_n 2, 1, 0, []), (48, .iload_n 2, 1, 0, []), (49, .aload_n 0, 1, 0, []), (50, .getfield 13, 3, 0, []), (53, .iconst 1, 1, 0, []), (54, .iaload, 1, 0, []), (55, .if_icmp .ge 29, 3, 0, []), (58, .aload_n 0, 1, 0, []), (59, .iload_n 2, 1, 0, []), (60, .iconst 0, 1, 0, []), (61, .invokevirtual 188, 3, 0, []), (64, .iload_n 1, 1, 0, []), (65, .if_icmp .ne 13, 3, 0, []), (68, .aload_n 0, 1, 0, []), (69, .iload_n 2, 1, 0, []), (70, .invokevirtual 442, 3, 0, []), (73, .ifCond .eq 5, 3, 0, []), (76, .iload_n 2, 1, 0, []), (77, .ireturn, 1, 0, []), (78, .iinc 2 1, 3, 0, []), (81, .goto (-33), 3, 0, []), (84, .iconst (-1), 1, 0, []), (85, .ireturn, 1, 0, [])]
theorem zd_X12_pick : ∀ q ∈ zc_X12_pick, decode prog_14_method_76_code q.1 = .ok (q.2.1, q.2.2.1) := by decide +kernel
def zc_X12_canGoOn : List (Nat × ClassFile.Instr × Nat × Nat × List (Nat × Int × Nat)) := [(0, .aload_n 0, 1, 0, []), (1, .getfield 125, 3, 0, []), (4, .iload_n 1, 1, 0, []), (5, .baload, 1, 0, []), (6, .ifCond .eq 22, 3, 0, []), (9, .aload_n 0, 1, 0, []), (10, .getfield 119, 3, 0, []), (13, .iload_n 1, 1, 0, []), (14, .iaload, 1, 0, []), (15, .aload_n 0, 1, 0, []), (16, .iload_n 1, 1, 0, []), (17, .iconst 1, 1, 0, []), (18, .invokevirtual 188, 3, 0, []), (21, .if_icmp .ge 7, 3, 0, []), (24, .iconst 1, 1, 0, []), (25, .goto 4, 3, 0, []), (28, .iconst 0, 1, 0, []), (29, .ireturn, 1, 0, [])]
theorem zd_X12_canGoOn : ∀ q ∈ zc_X12_canGoOn, decode prog_14_method_75_code q.1 = .ok (q.2.1, q.2.2.1) := by decide +kernel
def zc_X12_runsOf : List (Nat × ClassFile.Instr × Nat × Nat × List (Nat × Int × Nat)) := [(0, .aload_n 0, 1, 0, []), (1, .iload_n 1, 1, 0, []), (2, .iload_n 2, 1, 0, []), (3, .iload_n 3, 1, 0, []), (4, .iconst (-1), 1, 0, []), (5, .invokevirtual 417, 3, 0, []), (8, .aload_n 0, 1, 0, []), (9, .iconst 0, 1, 0, []), (10, .ldc2_w 421, 3, 0, []), (13, .invokevirtual 423, 3, 0, []), (16, .iconst 0, 1, 0, []), (17, .sipush 999, 3, 0, []), (20, .invokestatic 427, 3, 0, []), (23, .ireturn, 1, 0, [])]
theorem zd_X12_runsOf : ∀ q ∈ zc_X12_runsOf, decode prog_14_method_69_code q.1 = .ok (q.2.1, q.2.2.1) := by decide +kernel
def zc_X12_ends : List (Nat × ClassFile.Instr × Nat × Nat × List (Nat × Int × Nat)) := [(0, .aload_n 0, 1, 0, []), (1, .iconst 0, 1, 0, []), (2, .putfield 161, 3, 0, []), (5, .iload_n 1, 1, 0, []), (6, .i2l, 1, 0, []), (7, .lconst 0, 1, 0, []), (8, .ldc2_w 431, 3, 0, []), (11, .invokestatic 181, 3, 0, []), (14, .ifCond .eq 21, 3, 0, []), (17, .aload_n 0, 1, 0, []), (18, .iload_n 2, 1, 0, []), (19, .invokevirtual 217, 3, 0, []), (22, .ifCond .eq 13, 3, 0, []), (25, .iload_n 3, 1, 0, []), (26, .i2l, 1, 0, []), (27, .lconst 0, 1, 0, []), (28, .lconst 1, 1, 0, []), (29, .invokestatic 181, 3, 0, []), (32, .ifCond .ne 5, 3, 0, []), (35, .iconst (-1), 1, 0, []), (36, .ireturn, 1, 0, []), (37, .aload_n 0, 1, 0, []), (38, .iload_n 1, 1, 0, []), (39, .invokevirtual 457, 3, 0, []), (42, .iload_n 3, 1, 0, []), (43, .ifCond .ne 12, 3, 0, []), (46, .aload_n 0, 1, 0, []), (47, .getfield 122, 3, 0, []), (50, .iload_n 2, 1, 0, []), (51, .iaload, 1, 0, []), (52, .goto 9, 3, 0, []), (55, .aload_n 0, 1, 0, []), (56, .getfield 119, 3, 0, []), (59, .iload_n 2, 1, 0, []), (60, .iaload, 1, 0, []), (61, .ireturn, 1, 0, [])]
theorem zd_X12_ends : ∀ q ∈ zc_X12_ends, decode prog_14_method_80_code q.1 = .ok (q.2.1, q.2.2.1) := by decide +kernel
def zc_X12_day : List (Nat × ClassFile.Instr × Nat × Nat × List (Nat × Int × Nat)) := [(0, .aload_n 0, 1, 0, []), (1, .iconst 0, 1, 0, []), (2, .putfield 161, 3, 0, []), (5, .iload_n 1, 1, 0, []), (6, .i2l, 1, 0, []), (7, .lconst 0, 1, 0, []), (8, .ldc2_w 431, 3, 0, []), (11, .invokestatic 181, 3, 0, []), (14, .ifCond .eq 15, 3, 0, []), (17, .iload_n 2, 1, 0, []), (18, .i2l, 1, 0, []), (19, .lconst 0, 1, 0, []), (20, .ldc2_w 460, 3, 0, []), (23, .invokestatic 181, 3, 0, []), (26, .ifCond .ne 5, 3, 0, []), (29, .iconst (-1), 1, 0, []), (30, .ireturn, 1, 0, []), (31, .aload_n 0, 1, 0, []), (32, .iload_n 1, 1, 0, []), (33, .invokevirtual 457, 3, 0, []), (36, .iload_n 2, 1, 0, []), (37, .ifCond .ne 8, 3, 0, []), (40, .aload_n 0, 1, 0, []), (41, .invokevirtual 462, 3, 0, []), (44, .ireturn, 1, 0, []), (45, .iconst 0, 1, 0, []), (46, .istore_n 3, 1, 0, []), (47, .iconst 0, 1, 0, []), (48, .istore 4, 2, 0, []), (50, .iconst 0, 1, 0, []), (51, .istore 5, 2, 0, []), (53, .iload 5, 2, 0, []), (55, .aload_n 0, 1, 0, []), (56, .getfield 13, 3, 0, []), (59, .iconst 1, 1, 0, []), (60, .iaload, 1, 0, []), (61, .if_icmp .ge 72, 3, 0, []), (64, .iload_n 3, 1, 0, []), (65, .aload_n 0, 1, 0, []), (66, .iload 5, 2, 0, []), (68, .invokevirtual 465, 3, 0, []), (71, .ifCond .eq 13, 3, 0, []), (74, .aload_n 0, 1, 0, []), (75, .iload 5, 2, 0, []), (77, .iconst 3, 1, 0, []), (78, .invokevirtual 188, 3, 0, []), (81, .goto 4, 3, 0, []), (84, .iconst 0, 1, 0, []), (85, .iadd, 1, 0, []), (86, .istore_n 3, 1, 0, []), (87, .iload 4, 2, 0, []), (89, .aload_n 0, 1, 0, []), (90, .getfield 119, 3, 0, []), (93, .iload 5, 2, 0, []), (95, .iaload, 1, 0, []), (96, .ifCond .le 27, 3, 0, []), (99, .aload_n 0, 1, 0, []), (100, .getfield 119, 3, 0, []), (103, .iload 5, 2, 0, []), (105, .iaload, 1, 0, []), (106, .aload_n 0, 1, 0, []), (107, .iload 5, 2, 0, []), (109, .iconst 1, 1, 0, []), (110, .invokevirtual 188, 3, 0, []), (113, .if_icmp .ge 10, 3, 0, []), (116, .iconst 1, 1, 0, []), (117, .iload 5, 2, 0, []), (119, .ishl, 1, 0, []), (120, .goto 4, 3, 0, []), (123, .iconst 0, 1, 0, []), (124, .ior, 1, 0, []), (125, .istore 4, 2, 0, []), (127, .iinc 5 1, 3, 0, []), (130, .goto (-77), 3, 0, []), (133, .iload_n 2, 1, 0, []), (134, .iconst 1, 1, 0, []), (135, .if_icmp .ne 7, 3, 0, []), (138, .iload_n 3, 1, 0, []), (139, .goto 5, 3, 0, []), (142, .iload 4, 2, 0, []), (144, .ireturn, 1, 0, [])]
theorem zd_X12_day : ∀ q ∈ zc_X12_day, decode prog_14_method_82_code q.1 = .ok (q.2.1, q.2.2.1) := by decide +kernel
def zc_X12_standsFrom : List (Nat × ClassFile.Instr × Nat × Nat × List (Nat × Int × Nat)) := [(0, .iconst 0, 1, 0, []), (1, .istore_n 1, 1, 0, []), (2, .iconst 0, 1, 0, []), (3, .istore_n 2, 1, 0, []), (4, .iload_n 2, 1, 0, []), (5, .bipush 24, 2, 0, []), (7, .if_icmp .ge 49, 3, 0, []), (10, .iconst 0, 1, 0, []), (11, .istore_n 3, 1, 0, []), (12, .iload_n 3, 1, 0, []), (13, .aload_n 0, 1, 0, []), (14, .getfield 13, 3, 0, []), (17, .iconst 0, 1, 0, []), (18, .iaload, 1, 0, []), (19, .if_icmp .ge 31, 3, 0, []), (22, .aload_n 0, 1, 0, []), (23, .getfield 113, 3, 0, []), (26, .bipush 6, 2, 0, []), (28, .iload_n 2, 1, 0, []), (29, .imul, 1, 0, []), (30, .iload_n 3, 1, 0, []), (31, .iadd, 1, 0, []), (32, .iaload, 1, 0, []), (33, .ifCond .le 9, 3, 0, []), (36, .iload_n 2, 1, 0, []), (37, .iconst 1, 1, 0, []), (38, .iadd, 1, 0, []), (39, .goto 4, 3, 0, []), (42, .iload_n 1, 1, 0, []), (43, .istore_n 1, 1, 0, []), (44, .iinc 3 1, 3, 0, []), (47, .goto (-35), 3, 0, []), (50, .iinc 2 1, 3, 0, []), (53, .goto (-49), 3, 0, []), (56, .iload_n 1, 1, 0, []), (57, .ireturn, 1, 0, [])]
theorem zd_X12_standsFrom : ∀ q ∈ zc_X12_standsFrom, decode prog_14_method_81_code q.1 = .ok (q.2.1, q.2.2.1) := by decide +kernel
def zc_X12_isInTime : List (Nat × ClassFile.Instr × Nat × Nat × List (Nat × Int × Nat)) := [(0, .aload_n 0, 1, 0, []), (1, .getfield 122, 3, 0, []), (4, .iload_n 1, 1, 0, []), (5, .iaload, 1, 0, []), (6, .iconst (-1), 1, 0, []), (7, .if_icmp .eq 22, 3, 0, []), (10, .aload_n 0, 1, 0, []), (11, .getfield 122, 3, 0, []), (14, .iload_n 1, 1, 0, []), (15, .iaload, 1, 0, []), (16, .aload_n 0, 1, 0, []), (17, .iload_n 1, 1, 0, []), (18, .iconst 2, 1, 0, []), (19, .invokevirtual 188, 3, 0, []), (22, .if_icmp .gt 7, 3, 0, []), (25, .iconst 1, 1, 0, []), (26, .goto 4, 3, 0, []), (29, .iconst 0, 1, 0, []), (30, .ireturn, 1, 0, [])]
theorem zd_X12_isInTime : ∀ q ∈ zc_X12_isInTime, decode prog_14_method_78_code q.1 = .ok (q.2.1, q.2.2.1) := by decide +kernel
def zc_X12_least : List (Nat × ClassFile.Instr × Nat × Nat × List (Nat × Int × Nat)) := [(0, .aload_n 0, 1, 0, []), (1, .iconst 0, 1, 0, []), (2, .putfield 161, 3, 0, []), (5, .iload_n 1, 1, 0, []), (6, .i2l, 1, 0, []), (7, .lconst 1, 1, 0, []), (8, .lconst 1, 1, 0, []), (9, .aload_n 0, 1, 0, []), (10, .getfield 13, 3, 0, []), (13, .iconst 1, 1, 0, []), (14, .iaload, 1, 0, []), (15, .lshl, 1, 0, []), (16, .lconst 1, 1, 0, []), (17, .lsub, 1, 0, []), (18, .invokestatic 181, 3, 0, []), (21, .ifCond .ne 5, 3, 0, []), (24, .iconst (-1), 1, 0, []), (25, .ireturn, 1, 0, []), (26, .iconst 0, 1, 0, []), (27, .istore_n 2, 1, 0, []), (28, .iload_n 2, 1, 0, []), (29, .aload_n 0, 1, 0, []), (30, .getfield 13, 3, 0, []), (33, .iconst 1, 1, 0, []), (34, .iaload, 1, 0, []), (35, .if_icmp .ge 27, 3, 0, []), (38, .iload_n 1, 1, 0, []), (39, .iload_n 2, 1, 0, []), (40, .invokestatic 468, 3, 0, []), (43, .ifCond .eq 13, 3, 0, []), (46, .aload_n 0, 1, 0, []), (47, .iload_n 2, 1, 0, []), (48, .invokevirtual 210, 3, 0, []), (51, .ifCond .eq 5, 3, 0, []), (54, .iconst (-1), 1, 0, []), (55, .ireturn, 1, 0, []), (56, .iinc 2 1, 3, 0, []), (59, .goto (-31), 3, 0, []), (62, .iconst (-1), 1, 0, []), (63, .istore_n 2, 1, 0, []), (64, .iconst 0, 1, 0, []), (65, .istore_n 3, 1, 0, []), (66, .iload_n 3, 1, 0, []), (67, .bipush 12, 2, 0, []), (69, .if_icmp .gt 83, 3, 0, []), (72, .iload_n 2, 1, 0, []), (73, .iconst (-1), 1, 0, []), (74, .if_icmp .ne 78, 3, 0, []), (77, .aload_n 0, 1, 0, []), (78, .iload_n 3, 1, 0, []), (79, .invokevirtual 457, 3, 0, []), (82, .iconst 1, 1, 0, []), (83, .istore 4, 2, 0, []), (85, .iconst 0, 1, 0, []), (86, .istore 5, 2, 0, []), (88, .iload 5, 2, 0, []), (90, .aload_n 0, 1, 0, []), (91, .getfield 13, 3, 0, []), (94, .iconst 1, 1, 0, []), (95, .iaload, 1, 0, []), (96, .if_icmp .ge 39, 3, 0, []), (99, .iload 4, 2, 0, []), (101, .ifCond .eq 25, 3, 0, []), (104, .iload_n 1, 1, 0, []), (105, .iload 5, 2, 0, []), (107, .invokestatic 468, 3, 0, []), (110, .ifCond .eq 12, 3, 0, []), (113, .aload_n 0, 1, 0, []), (114, .iload 5, 2, 0, []), (116, .invokevirtual 465, 3, 0, []), (119, .ifCond .eq 7, 3, 0, []), (122, .iconst 1, 1, 0, []), (123, .goto 4, 3, 0, []), (126, .iconst 0, 1, 0, []), (127, .istore 4, 2, 0, []), (129, .iinc 5 1, 3, 0, []), (132, .goto (-44), 3, 0, []), (135, .iload 4, 2, 0, []), (137, .ifCond .eq 7, 3, 0, []), (140, .iload_n 3, 1, 0, []), (141, .goto 4, 3, 0, []), (144, .iconst (-1), 1, 0, []), (145, .istore_n 2, 1, 0, []), (146, .iinc 3 1, 3, 0, []), (149, .goto (-83), 3, 0, []), (152, .iload_n 2, 1, 0, []), (153, .ireturn, 1, 0, [])]
theorem zd_X12_least : ∀ q ∈ zc_X12_least, decode prog_14_method_83_code q.1 = .ok (q.2.1, q.2.2.1) := by decide +kernel
def zc_X12_is : List (Nat × ClassFile.Instr × Nat × Nat × List (Nat × Int × Nat)) := [(0, .iload_n 0, 1, 0, []), (1, .iload_n 1, 1, 0, []), (2, .ishr, 1, 0, []), (3, .iconst 1, 1, 0, []), (4, .iand, 1, 0, []), (5, .iconst 1, 1, 0, []), (6, .if_icmp .ne 7, 3, 0, []), (9, .iconst 1, 1, 0, []), (10, .goto 4, 3, 0, []), (13, .iconst 0, 1, 0, []), (14, .ireturn, 1, 0, [])]
theorem zd_X12_is : ∀ q ∈ zc_X12_is, decode prog_14_method_4_code q.1 = .ok (q.2.1, q.2.2.1) := by decide +kernel
def zc_X12_orderly : List (Nat × ClassFile.Instr × Nat × Nat × List (Nat × Int × Nat)) := [(0, .aload_n 0, 1, 0, []), (1, .iconst 0, 1, 0, []), (2, .putfield 161, 3, 0, []), (5, .aload_n 0, 1, 0, []), (6, .iload_n 1, 1, 0, []), (7, .invokevirtual 201, 3, 0, []), (10, .ifCond .eq 15, 3, 0, []), (13, .iload_n 2, 1, 0, []), (14, .i2l, 1, 0, []), (15, .lconst 0, 1, 0, []), (16, .ldc2_w 431, 3, 0, []), (19, .invokestatic 181, 3, 0, []), (22, .ifCond .ne 5, 3, 0, []), (25, .iconst (-1), 1, 0, []), (26, .ireturn, 1, 0, []), (27, .iconst 0, 1, 0, []), (28, .istore 4, 2, 0, []), (30, .iconst 0, 1, 0, []), (31, .istore 5, 2, 0, []), (33, .iload 5, 2, 0, []), (35, .aload_n 0, 1, 0, []), (36, .getfield 13, 3, 0, []), (39, .iconst 1, 1, 0, []), (40, .iaload, 1, 0, []), (41, .if_icmp .ge 41, 3, 0, []), (44, .aload_n 0, 1, 0, []), (45, .iload 5, 2, 0, []), (47, .iconst 0, 1, 0, []), (48, .invokevirtual 188, 3, 0, []), (51, .iload_n 1, 1, 0, []), (52, .if_icmp .ne 24, 3, 0, []), (55, .aload_n 0, 1, 0, []), (56, .iload 5, 2, 0, []), (58, .invokevirtual 210, 3, 0, []), (61, .ifCond .ne 15, 3, 0, []), (64, .aload_n 0, 1, 0, []), (65, .getfield 134, 3, 0, []), (68, .iload 4, 2, 0, []), (70, .iload 5, 2, 0, []), (72, .iastore, 1, 0, []), (73, .iinc 4 1, 3, 0, []), (76, .iinc 5 1, 3, 0, []), (79, .goto (-46), 3, 0, []), (82, .iload 4, 2, 0, []), (84, .bipush 6, 2, 0, []), (86, .if_icmp .gt 19, 3, 0, []), (89, .iload_n 3, 1, 0, []), (90, .i2l, 1, 0, []), (91, .ldc2_w 267, 3, 0, []), (94, .iload 4, 2, 0, []), (96, .i2l, 1, 0, []), (97, .lconst 1, 1, 0, []), (98, .lsub, 1, 0, []), (99, .invokestatic 181, 3, 0, []), (102, .ifCond .ne 5, 3, 0, []), (105, .iconst (-1), 1, 0, []), (106, .ireturn, 1, 0, []), (107, .iload 4, 2, 0, []), (109, .ifCond .ne 5, 3, 0, []), (112, .iconst 0, 1, 0, []), (113, .ireturn, 1, 0, []), (114, .aload_n 0, 1, 0, []), (115, .iload_n 1, 1, 0, []), (116, .putfield 128, 3, 0, []), (119, .aload_n 0, 1, 0, []), (120, .iload 4, 2, 0, []), (122, .putfield 439, 3, 0, []), (125, .aload_n 0, 1, 0, []), (126, .iconst (-1), 1, 0, []), (127, .putfield 472, 3, 0, []), (130, .iconst 0, 1, 0, []), (131, .istore 5, 2, 0, []), (133, .aload_n 0, 1, 0, []), (134, .getfield 137, 3, 0, []), (137, .iconst 0, 1, 0, []), (138, .iconst (-1), 1, 0, []), (139, .iastore, 1, 0, []), (140, .iload 5, 2, 0, []), (142, .ifCond .lt 72, 3, 0, []), (145, .aload_n 0, 1, 0, []), (146, .getfield 137, 3, 0, []), (149, .iload 5, 2, 0, []), (151, .dup2, 1, 0, []), (152, .iaload, 1, 0, []), (153, .iconst 1, 1, 0, []), (154, .iadd, 1, 0, []), (155, .iastore, 1, 0, []), (156, .aload_n 0, 1, 0, []), (157, .getfield 137, 3, 0, []), (160, .iload 5, 2, 0, []), (162, .iaload, 1, 0, []), (163, .iload 4, 2, 0, []), (165, .if_icmp .ne 9, 3, 0, []), (168, .iinc 5 (-1), 3, 0, []), (171, .goto (-31), 3, 0, []), (174, .aload_n 0, 1, 0, []), (175, .iload 5, 2, 0, []), (177, .invokevirtual 475, 3, 0, []), (180, .ifCond .eq (-40), 3, 0, []), (183, .iload 5, 2, 0, []), (185, .iload 4, 2, 0, []), (187, .iconst 1, 1, 0, []), (188, .isub, 1, 0, []), (189, .if_icmp .ne 11, 3, 0, []), (192, .aload_n 0, 1, 0, []), (193, .iload_n 2, 1, 0, []), (194, .invokevirtual 478, 3, 0, []), (197, .goto (-57), 3, 0, []), (200, .iinc 5 1, 3, 0, []), (203, .aload_n 0, 1, 0, []), (204, .getfield 137, 3, 0, []), (207, .iload 5, 2, 0, []), (209, .iconst (-1), 1, 0, []), (210, .iastore, 1, 0, []), (211, .goto (-71), 3, 0, []), (214, .aload_n 0, 1, 0, []), (215, .iconst (-1), 1, 0, []), (216, .putfield 128, 3, 0, []), (219, .iload_n 3, 1, 0, []), (220, .iconst (-1), 1, 0, []), (221, .if_icmp .ne 10, 3, 0, []), (224, .aload_n 0, 1, 0, []), (225, .getfield 472, 3, 0, []), (228, .goto 9, 3, 0, []), (231, .aload_n 0, 1, 0, []), (232, .getfield 140, 3, 0, []), (235, .iload_n 3, 1, 0, []), (236, .iaload, 1, 0, []), (237, .ireturn, 1, 0, [])]
theorem zd_X12_orderly : ∀ q ∈ zc_X12_orderly, decode prog_14_method_86_code q.1 = .ok (q.2.1, q.2.2.1) := by decide +kernel
def zc_X12_isFresh : List (Nat × ClassFile.Instr × Nat × Nat × List (Nat × Int × Nat)) := [(0, .iconst 1, 1, 0, []), (1, .istore_n 2, 1, 0, []), (2, .iconst 0, 1, 0, []), (3, .istore_n 3, 1, 0, []), (4, .iload_n 3, 1, 0, []), (5, .iload_n 1, 1, 0, []), (6, .if_icmp .ge 34, 3, 0, []), (9, .iload_n 2, 1, 0, []), (10, .ifCond .eq 22, 3, 0, []), (13, .aload_n 0, 1, 0, []), (14, .getfield 137, 3, 0, []), (17, .iload_n 3, 1, 0, []), (18, .iaload, 1, 0, []), (19, .aload_n 0, 1, 0, []), (20, .getfield 137, 3, 0, []), (23, .iload_n 1, 1, 0, []), (24, .iaload, 1, 0, []), (25, .if_icmp .eq 7, 3, 0, []), (28, .iconst 1, 1, 0, []), (29, .goto 4, 3, 0, []), (32, .iconst 0, 1, 0, []), (33, .istore_n 2, 1, 0, []), (34, .iinc 3 1, 3, 0, []), (37, .goto (-33), 3, 0, []), (40, .iload_n 2, 1, 0, []), (41, .ireturn, 1, 0, [])]
theorem zd_X12_isFresh : ∀ q ∈ zc_X12_isFresh, decode prog_14_method_84_code q.1 = .ok (q.2.1, q.2.2.1) := by decide +kernel
def zc_X12_weighOrder : List (Nat × ClassFile.Instr × Nat × Nat × List (Nat × Int × Nat)) := [(0, .iconst 0, 1, 0, []), (1, .istore_n 2, 1, 0, []), (2, .iload_n 2, 1, 0, []), (3, .aload_n 0, 1, 0, []), (4, .getfield 439, 3, 0, []), (7, .if_icmp .ge 26, 3, 0, []), (10, .aload_n 0, 1, 0, []), (11, .getfield 131, 3, 0, []), (14, .iload_n 2, 1, 0, []), (15, .aload_n 0, 1, 0, []), (16, .getfield 134, 3, 0, []), (19, .aload_n 0, 1, 0, []), (20, .getfield 137, 3, 0, []), (23, .iload_n 2, 1, 0, []), (24, .iaload, 1, 0, []), (25, .iaload, 1, 0, []), (26, .iastore, 1, 0, []), (27, .iinc 2 1, 3, 0, []), (30, .goto (-28), 3, 0, []), (33, .aload_n 0, 1, 0, []), (34, .iload_n 1, 1, 0, []), (35, .invokevirtual 457, 3, 0, []), (38, .iconst 0, 1, 0, []), (39, .istore_n 2, 1, 0, []), (40, .iconst 0, 1, 0, []), (41, .istore_n 3, 1, 0, []), (42, .iload_n 3, 1, 0, []), (43, .aload_n 0, 1, 0, []), (44, .getfield 439, 3, 0, []), (47, .if_icmp .ge 40, 3, 0, []), (50, .iload_n 2, 1, 0, []), (51, .aload_n 0, 1, 0, []), (52, .aload_n 0, 1, 0, []), (53, .getfield 131, 3, 0, []), (56, .iload_n 3, 1, 0, []), (57, .iaload, 1, 0, []), (58, .invokevirtual 465, 3, 0, []), (61, .ifCond .eq 17, 3, 0, []), (64, .aload_n 0, 1, 0, []), (65, .aload_n 0, 1, 0, []), (66, .getfield 131, 3, 0, []), (69, .iload_n 3, 1, 0, []), (70, .iaload, 1, 0, []), (71, .iconst 3, 1, 0, []), (72, .invokevirtual 188, 3, 0, []), (75, .goto 4, 3, 0, []), (78, .iconst 0, 1, 0, []), (79, .iadd, 1, 0, []), (80, .istore_n 2, 1, 0, []), (81, .iinc 3 1, 3, 0, []), (84, .goto (-42), 3, 0, []), (87, .iload_n 2, 1, 0, []), (88, .aload_n 0, 1, 0, []), (89, .getfield 472, 3, 0, []), (92, .if_icmp .le 36, 3, 0, []), (95, .aload_n 0, 1, 0, []), (96, .iload_n 2, 1, 0, []), (97, .putfield 472, 3, 0, []), (100, .iconst 0, 1, 0, []), (101, .istore_n 3, 1, 0, []), (102, .iload_n 3, 1, 0, []), (103, .aload_n 0, 1, 0, []), (104, .getfield 439, 3, 0, []), (107, .if_icmp .ge 21, 3, 0, []), (110, .aload_n 0, 1, 0, []), (111, .getfield 140, 3, 0, []), (114, .iload_n 3, 1, 0, []), (115, .aload_n 0, 1, 0, []), (116, .getfield 131, 3, 0, []), (119, .iload_n 3, 1, 0, []), (120, .iaload, 1, 0, []), (121, .iastore, 1, 0, []), (122, .iinc 3 1, 3, 0, []), (125, .goto (-23), 3, 0, []), (128, .return_, 1, 0, [])]
theorem zd_X12_weighOrder : ∀ q ∈ zc_X12_weighOrder, decode prog_14_method_85_code q.1 = .ok (q.2.1, q.2.2.1) := by decide +kernel
def zc_X12_little : List (Nat × ClassFile.Instr × Nat × Nat × List (Nat × Int × Nat)) := [(0, .aload_n 0, 1, 0, []), (1, .iconst 0, 1, 0, []), (2, .putfield 161, 3, 0, []), (5, .aload_n 0, 1, 0, []), (6, .iload_n 1, 1, 0, []), (7, .invokevirtual 217, 3, 0, []), (10, .ifCond .eq 23, 3, 0, []), (13, .iload_n 2, 1, 0, []), (14, .i2l, 1, 0, []), (15, .lconst 0, 1, 0, []), (16, .ldc2_w 431, 3, 0, []), (19, .invokestatic 181, 3, 0, []), (22, .ifCond .eq 11, 3, 0, []), (25, .aload_n 0, 1, 0, []), (26, .iload_n 1, 1, 0, []), (27, .invokevirtual 210, 3, 0, []), (30, .ifCond .eq 5, 3, 0, []), (33, .iconst (-1), 1, 0, []), (34, .ireturn, 1, 0, []), (35, .bipush 11, 2, 0, []), (37, .iconst 3, 1, 0, []), (38, .aload_n 0, 1, 0, []), (39, .iload_n 1, 1, 0, []), (40, .iconst 0, 1, 0, []), (41, .invokevirtual 188, 3, 0, []), (44, .imul, 1, 0, []), (45, .iadd, 1, 0, []), (46, .iconst 2, 1, 0, []), (47, .iadd, 1, 0, []), (48, .istore_n 3, 1, 0, []), (49, .aload_n 0, 1, 0, []), (50, .getfield 13, 3, 0, []), (53, .iload_n 3, 1, 0, []), (54, .iaload, 1, 0, []), (55, .istore 4, 2, 0, []), (57, .iconst (-1), 1, 0, []), (58, .istore 5, 2, 0, []), (60, .iconst 0, 1, 0, []), (61, .istore 6, 2, 0, []), (63, .iload 4, 2, 0, []), (65, .iload 6, 2, 0, []), (67, .iadd, 1, 0, []), (68, .bipush 10, 2, 0, []), (70, .if_icmp .ge 47, 3, 0, []), (73, .iload 5, 2, 0, []), (75, .iconst (-1), 1, 0, []), (76, .if_icmp .ne 41, 3, 0, []), (79, .aload_n 0, 1, 0, []), (80, .getfield 13, 3, 0, []), (83, .iload_n 3, 1, 0, []), (84, .iload 4, 2, 0, []), (86, .iload 6, 2, 0, []), (88, .iadd, 1, 0, []), (89, .iastore, 1, 0, []), (90, .aload_n 0, 1, 0, []), (91, .iload_n 2, 1, 0, []), (92, .invokevirtual 457, 3, 0, []), (95, .aload_n 0, 1, 0, []), (96, .iload_n 1, 1, 0, []), (97, .invokevirtual 465, 3, 0, []), (100, .ifCond .eq 8, 3, 0, []), (103, .iload 6, 2, 0, []), (105, .goto 4, 3, 0, []), (108, .iconst (-1), 1, 0, []), (109, .istore 5, 2, 0, []), (111, .iinc 6 1, 3, 0, []), (114, .goto (-51), 3, 0, []), (117, .aload_n 0, 1, 0, []), (118, .getfield 13, 3, 0, []), (121, .iload_n 3, 1, 0, []), (122, .iload 4, 2, 0, []), (124, .iastore, 1, 0, []), (125, .iload 5, 2, 0, []), (127, .ireturn, 1, 0, [])]
theorem zd_X12_little : ∀ q ∈ zc_X12_little, decode prog_14_method_87_code q.1 = .ok (q.2.1, q.2.2.1) := by decide +kernel
def zc_X12_lasts : List (Nat × ClassFile.Instr × Nat × Nat × List (Nat × Int × Nat)) := [(0, .aload_n 0, 1, 0, []), (1, .iconst 0, 1, 0, []), (2, .putfield 161, 3, 0, []), (5, .iload_n 1, 1, 0, []), (6, .i2l, 1, 0, []), (7, .lconst 0, 1, 0, []), (8, .ldc2_w 431, 3, 0, []), (11, .invokestatic 181, 3, 0, []), (14, .ifCond .ne 5, 3, 0, []), (17, .iconst (-1), 1, 0, []), (18, .ireturn, 1, 0, []), (19, .aload_n 0, 1, 0, []), (20, .bipush 16, 2, 0, []), (22, .invokevirtual 174, 3, 0, []), (25, .iconst 0, 1, 0, []), (26, .istore_n 2, 1, 0, []), (27, .aload_n 0, 1, 0, []), (28, .getfield 13, 3, 0, []), (31, .bipush 9, 2, 0, []), (33, .iaload, 1, 0, []), (34, .ifCond .ne 7, 3, 0, []), (37, .iconst 1, 1, 0, []), (38, .goto 4, 3, 0, []), (41, .iconst 0, 1, 0, []), (42, .istore_n 3, 1, 0, []), (43, .iload_n 3, 1, 0, []), (44, .ifCond .eq 79, 3, 0, []), (47, .iload_n 2, 1, 0, []), (48, .sipush 999, 3, 0, []), (51, .if_icmp .ge 72, 3, 0, []), (54, .aload_n 0, 1, 0, []), (55, .getfield 13, 3, 0, []), (58, .bipush 8, 2, 0, []), (60, .aload_n 0, 1, 0, []), (61, .getfield 13, 3, 0, []), (64, .bipush 8, 2, 0, []), (66, .iaload, 1, 0, []), (67, .aload_n 0, 1, 0, []), (68, .iload_n 1, 1, 0, []), (69, .invokevirtual 433, 3, 0, []), (72, .isub, 1, 0, []), (73, .i2l, 1, 0, []), (74, .iconst 0, 1, 0, []), (75, .sipush 9999, 3, 0, []), (78, .invokestatic 427, 3, 0, []), (81, .iastore, 1, 0, []), (82, .aload_n 0, 1, 0, []), (83, .getfield 13, 3, 0, []), (86, .bipush 8, 2, 0, []), (88, .iaload, 1, 0, []), (89, .ifCond .le 7, 3, 0, []), (92, .iconst 1, 1, 0, []), (93, .goto 4, 3, 0, []), (96, .iconst 0, 1, 0, []), (97, .istore_n 3, 1, 0, []), (98, .iload_n 2, 1, 0, []), (99, .iload_n 3, 1, 0, []), (100, .ifCond .eq 7, 3, 0, []), (103, .iconst 1, 1, 0, []), (104, .goto 4, 3, 0, []), (107, .iconst 0, 1, 0, []), (108, .iadd, 1, 0, []), (109, .istore_n 2, 1, 0, []), (110, .aload_n 0, 1, 0, []), (111, .getfield 13, 3, 0, []), (114, .iconst 5, 1, 0, []), (115, .dup2, 1, 0, []), (116, .iaload, 1, 0, []), (117, .iconst 1, 1, 0, []), (118, .iadd, 1, 0, []), (119, .iastore, 1, 0, []), (120, .goto (-77), 3, 0, []), (123, .aload_n 0, 1, 0, []), (124, .bipush 16, 2, 0, []), (126, .invokevirtual 178, 3, 0, []), (129, .iload_n 3, 1, 0, []), (130, .ifCond .eq 7, 3, 0, []), (133, .iconst (-1), 1, 0, []), (134, .goto 4, 3, 0, []), (137, .iload_n 2, 1, 0, []), (138, .ireturn, 1, 0, [])]
theorem zd_X12_lasts : ∀ q ∈ zc_X12_lasts, decode prog_14_method_88_code q.1 = .ok (q.2.1, q.2.2.1) := by decide +kernel
def zc_X12_keepAll : List (Nat × ClassFile.Instr × Nat × Nat × List (Nat × Int × Nat)) := [(0, .iconst 0, 1, 0, []), (1, .istore_n 2, 1, 0, []), (2, .iload_n 2, 1, 0, []), (3, .bipush 34, 2, 0, []), (5, .if_icmp .ge 28, 3, 0, []), (8, .aload_n 0, 1, 0, []), (9, .getfield 23, 3, 0, []), (12, .bipush 34, 2, 0, []), (14, .iload_n 1, 1, 0, []), (15, .imul, 1, 0, []), (16, .iload_n 2, 1, 0, []), (17, .iadd, 1, 0, []), (18, .aload_n 0, 1, 0, []), (19, .getfield 13, 3, 0, []), (22, .iconst 5, 1, 0, []), (23, .iload_n 2, 1, 0, []), (24, .iadd, 1, 0, []), (25, .iaload, 1, 0, []), (26, .iastore, 1, 0, []), (27, .iinc 2 1, 3, 0, []), (30, .goto (-28), 3, 0, []), (33, .return_, 1, 0, [])]
theorem zd_X12_keepAll : ∀ q ∈ zc_X12_keepAll, decode prog_14_method_10_code q.1 = .ok (q.2.1, q.2.2.1) := by decide +kernel
def zc_X12_odds : List (Nat × ClassFile.Instr × Nat × Nat × List (Nat × Int × Nat)) := [(0, .aload_n 0, 1, 0, []), (1, .iconst 0, 1, 0, []), (2, .putfield 161, 3, 0, []), (5, .iload_n 1, 1, 0, []), (6, .i2l, 1, 0, []), (7, .lconst 0, 1, 0, []), (8, .ldc2_w 431, 3, 0, []), (11, .invokestatic 181, 3, 0, []), (14, .ifCond .eq 15, 3, 0, []), (17, .iload_n 2, 1, 0, []), (18, .i2l, 1, 0, []), (19, .lconst 0, 1, 0, []), (20, .ldc2_w 421, 3, 0, []), (23, .invokestatic 181, 3, 0, []), (26, .ifCond .ne 7, 3, 0, []), (29, .ldc2_w 267, 3, 0, []), (32, .lreturn, 1, 0, []), (33, .aload_n 0, 1, 0, []), (34, .bipush 16, 2, 0, []), (36, .invokevirtual 174, 3, 0, []), (39, .ldc2_w 481, 3, 0, []), (42, .lstore_n 3, 1, 0, []), (43, .iconst 0, 1, 0, []), (44, .istore 5, 2, 0, []), (46, .iload 5, 2, 0, []), (48, .iload_n 2, 1, 0, []), (49, .if_icmp .ge 62, 3, 0, []), (52, .lload_n 3, 1, 0, []), (53, .lload_n 3, 1, 0, []), (54, .aload_n 0, 1, 0, []), (55, .iload_n 1, 1, 0, []), (56, .invokevirtual 436, 3, 0, []), (59, .i2l, 1, 0, []), (60, .lmul, 1, 0, []), (61, .ldc2_w 483, 3, 0, []), (64, .ldiv, 1, 0, []), (65, .lsub, 1, 0, []), (66, .lstore_n 3, 1, 0, []), (67, .aload_n 0, 1, 0, []), (68, .getfield 13, 3, 0, []), (71, .bipush 8, 2, 0, []), (73, .aload_n 0, 1, 0, []), (74, .getfield 13, 3, 0, []), (77, .bipush 8, 2, 0, []), (79, .iaload, 1, 0, []), (80, .aload_n 0, 1, 0, []), (81, .iload_n 1, 1, 0, []), (82, .invokevirtual 433, 3, 0, []), (85, .isub, 1, 0, []), (86, .i2l, 1, 0, []), (87, .iconst 0, 1, 0, []), (88, .sipush 9999, 3, 0, []), (91, .invokestatic 427, 3, 0, []), (94, .iastore, 1, 0, []), (95, .aload_n 0, 1, 0, []), (96, .getfield 13, 3, 0, []), (99, .iconst 5, 1, 0, []), (100, .dup2, 1, 0, []), (101, .iaload, 1, 0, []), (102, .iconst 1, 1, 0, []), (103, .iadd, 1, 0, []), (104, .iastore, 1, 0, []), (105, .iinc 5 1, 3, 0, []), (108, .goto (-62), 3, 0, []), (111, .aload_n 0, 1, 0, []), (112, .bipush 16, 2, 0, []), (114, .invokevirtual 178, 3, 0, []), (117, .lload_n 3, 1, 0, []), (118, .lreturn, 1, 0, [])]
theorem zd_X12_odds : ∀ q ∈ zc_X12_odds, decode prog_14_method_89_code q.1 = .ok (q.2.1, q.2.2.1) := by decide +kernel
def zc_X12_sight : List (Nat × ClassFile.Instr × Nat × Nat × List (Nat × Int × Nat)) := [(0, .aload_n 0, 1, 0, []), (1, .iconst 0, 1, 0, []), (2, .putfield 161, 3, 0, []), (5, .iload_n 2, 1, 0, []), (6, .i2l, 1, 0, []), (7, .lconst 0, 1, 0, []), (8, .ldc2_w 215, 3, 0, []), (11, .invokestatic 181, 3, 0, []), (14, .ifCond .eq 15, 3, 0, []), (17, .iload_n 3, 1, 0, []), (18, .i2l, 1, 0, []), (19, .lconst 0, 1, 0, []), (20, .ldc2_w 213, 3, 0, []), (23, .invokestatic 181, 3, 0, []), (26, .ifCond .ne 9, 3, 0, []), (29, .aload_n 0, 1, 0, []), (30, .iconst (-1), 1, 0, []), (31, .invokevirtual 170, 3, 0, []), (34, .ireturn, 1, 0, []), (35, .aload_n 0, 1, 0, []), (36, .iload_n 1, 1, 0, []), (37, .invokevirtual 217, 3, 0, []), (40, .ifCond .ne 10, 3, 0, []), (43, .aload_n 0, 1, 0, []), (44, .bipush (-2), 2, 0, []), (46, .invokevirtual 170, 3, 0, []), (49, .ireturn, 1, 0, []), (50, .aload_n 0, 1, 0, []), (51, .getfield 13, 3, 0, []), (54, .iconst 2, 1, 0, []), (55, .iaload, 1, 0, []), (56, .istore 4, 2, 0, []), (58, .iload 4, 2, 0, []), (60, .bipush 8, 2, 0, []), (62, .if_icmp .ne 10, 3, 0, []), (65, .aload_n 0, 1, 0, []), (66, .bipush (-5), 2, 0, []), (68, .invokevirtual 170, 3, 0, []), (71, .ireturn, 1, 0, []), (72, .aload_n 0, 1, 0, []), (73, .getfield 13, 3, 0, []), (76, .sipush 153, 3, 0, []), (79, .iconst 3, 1, 0, []), (80, .iload 4, 2, 0, []), (82, .imul, 1, 0, []), (83, .iadd, 1, 0, []), (84, .iload_n 1, 1, 0, []), (85, .iastore, 1, 0, []), (86, .aload_n 0, 1, 0, []), (87, .getfield 13, 3, 0, []), (90, .sipush 153, 3, 0, []), (93, .iconst 3, 1, 0, []), (94, .iload 4, 2, 0, []), (96, .imul, 1, 0, []), (97, .iadd, 1, 0, []), (98, .iconst 1, 1, 0, []), (99, .iadd, 1, 0, []), (100, .iload_n 2, 1, 0, []), (101, .iastore, 1, 0, []), (102, .aload_n 0, 1, 0, []), (103, .getfield 13, 3, 0, []), (106, .sipush 153, 3, 0, []), (109, .iconst 3, 1, 0, []), (110, .iload 4, 2, 0, []), (112, .imul, 1, 0, []), (113, .iadd, 1, 0, []), (114, .iconst 2, 1, 0, []), (115, .iadd, 1, 0, []), (116, .iload_n 3, 1, 0, []), (117, .iastore, 1, 0, []), (118, .aload_n 0, 1, 0, []), (119, .getfield 13, 3, 0, []), (122, .iconst 2, 1, 0, []), (123, .dup2, 1, 0, []), (124, .iaload, 1, 0, []), (125, .iconst 1, 1, 0, []), (126, .iadd, 1, 0, []), (127, .iastore, 1, 0, []), (128, .aload_n 0, 1, 0, []), (129, .iload 4, 2, 0, []), (131, .iconst 1, 1, 0, []), (132, .iadd, 1, 0, []), (133, .invokevirtual 170, 3, 0, []), (136, .ireturn, 1, 0, [])]
theorem zd_X12_sight : ∀ q ∈ zc_X12_sight, decode prog_14_method_90_code q.1 = .ok (q.2.1, q.2.2.1) := by decide +kernel
def zc_X12_forget : List (Nat × ClassFile.Instr × Nat × Nat × List (Nat × Int × Nat)) := [(0, .aload_n 0, 1, 0, []), (1, .iconst 0, 1, 0, []), (2, .putfield 161, 3, 0, []), (5, .aload_n 0, 1, 0, []), (6, .getfield 13, 3, 0, []), (9, .iconst 2, 1, 0, []), (10, .iaload, 1, 0, []), (11, .istore_n 1, 1, 0, []), (12, .aload_n 0, 1, 0, []), (13, .getfield 13, 3, 0, []), (16, .iconst 2, 1, 0, []), (17, .iconst 0, 1, 0, []), (18, .iastore, 1, 0, []), (19, .iload_n 1, 1, 0, []), (20, .ireturn, 1, 0, [])]
theorem zd_X12_forget : ∀ q ∈ zc_X12_forget, decode prog_14_method_91_code q.1 = .ok (q.2.1, q.2.2.1) := by decide +kernel
def zc_X12_fits : List (Nat × ClassFile.Instr × Nat × Nat × List (Nat × Int × Nat)) := [(0, .aload_n 0, 1, 0, []), (1, .iconst 0, 1, 0, []), (2, .putfield 161, 3, 0, []), (5, .iconst 0, 1, 0, []), (6, .istore_n 1, 1, 0, []), (7, .iconst 0, 1, 0, []), (8, .istore_n 2, 1, 0, []), (9, .iload_n 2, 1, 0, []), (10, .bipush 12, 2, 0, []), (12, .if_icmp .gt 107, 3, 0, []), (15, .aload_n 0, 1, 0, []), (16, .iload_n 2, 1, 0, []), (17, .invokevirtual 457, 3, 0, []), (20, .iconst 1, 1, 0, []), (21, .istore_n 3, 1, 0, []), (22, .iconst 0, 1, 0, []), (23, .istore 4, 2, 0, []), (25, .iload 4, 2, 0, []), (27, .aload_n 0, 1, 0, []), (28, .getfield 13, 3, 0, []), (31, .iconst 2, 1, 0, []), (32, .iaload, 1, 0, []), (33, .if_icmp .ge 66, 3, 0, []), (36, .sipush 153, 3, 0, []), (39, .iconst 3, 1, 0, []), (40, .iload 4, 2, 0, []), (42, .imul, 1, 0, []), (43, .iadd, 1, 0, []), (44, .istore 5, 2, 0, []), (46, .iload_n 3, 1, 0, []), (47, .ifCond .eq 44, 3, 0, []), (50, .aload_n 0, 1, 0, []), (51, .getfield 116, 3, 0, []), (54, .bipush 10, 2, 0, []), (56, .aload_n 0, 1, 0, []), (57, .getfield 13, 3, 0, []), (60, .iload 5, 2, 0, []), (62, .iconst 1, 1, 0, []), (63, .iadd, 1, 0, []), (64, .iaload, 1, 0, []), (65, .imul, 1, 0, []), (66, .aload_n 0, 1, 0, []), (67, .getfield 13, 3, 0, []), (70, .iload 5, 2, 0, []), (72, .iaload, 1, 0, []), (73, .iadd, 1, 0, []), (74, .iaload, 1, 0, []), (75, .aload_n 0, 1, 0, []), (76, .getfield 13, 3, 0, []), (79, .iload 5, 2, 0, []), (81, .iconst 2, 1, 0, []), (82, .iadd, 1, 0, []), (83, .iaload, 1, 0, []), (84, .if_icmp .ne 7, 3, 0, []), (87, .iconst 1, 1, 0, []), (88, .goto 4, 3, 0, []), (91, .iconst 0, 1, 0, []), (92, .istore_n 3, 1, 0, []), (93, .iinc 4 1, 3, 0, []), (96, .goto (-71), 3, 0, []), (99, .iload_n 1, 1, 0, []), (100, .iload_n 3, 1, 0, []), (101, .ifCond .eq 9, 3, 0, []), (104, .iconst 1, 1, 0, []), (105, .iload_n 2, 1, 0, []), (106, .ishl, 1, 0, []), (107, .goto 4, 3, 0, []), (110, .iconst 0, 1, 0, []), (111, .ior, 1, 0, []), (112, .istore_n 1, 1, 0, []), (113, .iinc 2 1, 3, 0, []), (116, .goto (-107), 3, 0, []), (119, .iload_n 1, 1, 0, []), (120, .ireturn, 1, 0, [])]
theorem zd_X12_fits : ∀ q ∈ zc_X12_fits, decode prog_14_method_92_code q.1 = .ok (q.2.1, q.2.2.1) := by decide +kernel
def zc_X12_guards : List (Nat × ClassFile.Instr × Nat × Nat × List (Nat × Int × Nat)) := [(0, .aload_n 0, 1, 0, []), (1, .iconst 0, 1, 0, []), (2, .putfield 161, 3, 0, []), (5, .iload_n 1, 1, 0, []), (6, .i2l, 1, 0, []), (7, .lconst 0, 1, 0, []), (8, .lconst 1, 1, 0, []), (9, .invokestatic 181, 3, 0, []), (12, .ifCond .ne 5, 3, 0, []), (15, .iconst (-1), 1, 0, []), (16, .ireturn, 1, 0, []), (17, .ldc_w 456, 3, 0, []), (20, .istore_n 2, 1, 0, []), (21, .iconst 0, 1, 0, []), (22, .istore_n 3, 1, 0, []), (23, .iconst 0, 1, 0, []), (24, .istore 4, 2, 0, []), (26, .iload 4, 2, 0, []), (28, .sipush 256, 3, 0, []), (31, .if_icmp .ge 127, 3, 0, []), (34, .iload 4, 2, 0, []), (36, .invokestatic 485, 3, 0, []), (39, .iload_n 2, 1, 0, []), (40, .if_icmp .ge 7, 3, 0, []), (43, .iconst 1, 1, 0, []), (44, .goto 4, 3, 0, []), (47, .iconst 0, 1, 0, []), (48, .istore 5, 2, 0, []), (50, .iconst 0, 1, 0, []), (51, .istore 6, 2, 0, []), (53, .iload 6, 2, 0, []), (55, .bipush 8, 2, 0, []), (57, .if_icmp .ge 81, 3, 0, []), (60, .iload 5, 2, 0, []), (62, .ifCond .eq 76, 3, 0, []), (65, .iconst 0, 1, 0, []), (66, .istore 7, 2, 0, []), (68, .iload 7, 2, 0, []), (70, .iload 6, 2, 0, []), (72, .if_icmp .ge 60, 3, 0, []), (75, .iload 5, 2, 0, []), (77, .ifCond .eq 46, 3, 0, []), (80, .aload_n 0, 1, 0, []), (81, .getfield 13, 3, 0, []), (84, .bipush 89, 2, 0, []), (86, .bipush 8, 2, 0, []), (88, .iload 6, 2, 0, []), (90, .imul, 1, 0, []), (91, .iadd, 1, 0, []), (92, .iload 7, 2, 0, []), (94, .iadd, 1, 0, []), (95, .iaload, 1, 0, []), (96, .ifCond .eq 23, 3, 0, []), (99, .iload 4, 2, 0, []), (101, .iload 6, 2, 0, []), (103, .invokestatic 468, 3, 0, []), (106, .ifCond .ne 13, 3, 0, []), (109, .iload 4, 2, 0, []), (111, .iload 7, 2, 0, []), (113, .invokestatic 468, 3, 0, []), (116, .ifCond .eq 7, 3, 0, []), (119, .iconst 1, 1, 0, []), (120, .goto 4, 3, 0, []), (123, .iconst 0, 1, 0, []), (124, .istore 5, 2, 0, []), (126, .iinc 7 1, 3, 0, []), (129, .goto (-61), 3, 0, []), (132, .iinc 6 1, 3, 0, []), (135, .goto (-82), 3, 0, []), (138, .iload 5, 2, 0, []), (140, .ifCond .eq 12, 3, 0, []), (143, .iload 4, 2, 0, []), (145, .invokestatic 485, 3, 0, []), (148, .istore_n 2, 1, 0, []), (149, .iload 4, 2, 0, []), (151, .istore_n 3, 1, 0, []), (152, .iinc 4 1, 3, 0, []), (155, .goto (-129), 3, 0, []), (158, .iload_n 1, 1, 0, []), (159, .ifCond .ne 7, 3, 0, []), (162, .iload_n 2, 1, 0, []), (163, .goto 4, 3, 0, []), (166, .iload_n 3, 1, 0, []), (167, .ireturn, 1, 0, [])]
theorem zd_X12_guards : ∀ q ∈ zc_X12_guards, decode prog_14_method_93_code q.1 = .ok (q.2.1, q.2.2.1) := by decide +kernel
def zc_X12_ones : List (Nat × ClassFile.Instr × Nat × Nat × List (Nat × Int × Nat)) := [(0, .iconst 0, 1, 0, []), (1, .istore_n 1, 1, 0, []), (2, .iconst 0, 1, 0, []), (3, .istore_n 2, 1, 0, []), (4, .iload_n 2, 1, 0, []), (5, .bipush 10, 2, 0, []), (7, .if_icmp .ge 17, 3, 0, []), (10, .iload_n 1, 1, 0, []), (11, .iload_n 0, 1, 0, []), (12, .iload_n 2, 1, 0, []), (13, .ishr, 1, 0, []), (14, .iconst 1, 1, 0, []), (15, .iand, 1, 0, []), (16, .iadd, 1, 0, []), (17, .istore_n 1, 1, 0, []), (18, .iinc 2 1, 3, 0, []), (21, .goto (-17), 3, 0, []), (24, .iload_n 1, 1, 0, []), (25, .ireturn, 1, 0, [])]
theorem zd_X12_ones : ∀ q ∈ zc_X12_ones, decode prog_14_method_5_code q.1 = .ok (q.2.1, q.2.2.1) := by decide +kernel
def zc_X12_round : List (Nat × ClassFile.Instr × Nat × Nat × List (Nat × Int × Nat)) := [(0, .aload_n 0, 1, 0, []), (1, .iconst 0, 1, 0, []), (2, .putfield 161, 3, 0, []), (5, .iload_n 1, 1, 0, []), (6, .i2l, 1, 0, []), (7, .lconst 0, 1, 0, []), (8, .ldc2_w 488, 3, 0, []), (11, .invokestatic 181, 3, 0, []), (14, .ifCond .ne 5, 3, 0, []), (17, .iconst (-1), 1, 0, []), (18, .ireturn, 1, 0, []), (19, .iconst 0, 1, 0, []), (20, .istore_n 3, 1, 0, []), (21, .iconst 1, 1, 0, []), (22, .istore 4, 2, 0, []), (24, .iload 4, 2, 0, []), (26, .bipush 8, 2, 0, []), (28, .if_icmp .ge 29, 3, 0, []), (31, .iload_n 1, 1, 0, []), (32, .iload 4, 2, 0, []), (34, .invokestatic 468, 3, 0, []), (37, .ifCond .eq 14, 3, 0, []), (40, .aload_n 0, 1, 0, []), (41, .getfield 134, 3, 0, []), (44, .iload_n 3, 1, 0, []), (45, .iload 4, 2, 0, []), (47, .iastore, 1, 0, []), (48, .iinc 3 1, 3, 0, []), (51, .iinc 4 1, 3, 0, []), (54, .goto (-30), 3, 0, []), (57, .iload_n 2, 1, 0, []), (58, .i2l, 1, 0, []), (59, .ldc2_w 267, 3, 0, []), (62, .iload_n 3, 1, 0, []), (63, .i2l, 1, 0, []), (64, .lconst 1, 1, 0, []), (65, .lsub, 1, 0, []), (66, .invokestatic 181, 3, 0, []), (69, .ifCond .ne 5, 3, 0, []), (72, .iconst (-1), 1, 0, []), (73, .ireturn, 1, 0, []), (74, .aload_n 0, 1, 0, []), (75, .invokevirtual 490, 3, 0, []), (78, .iload_n 3, 1, 0, []), (79, .ifCond .ne 7, 3, 0, []), (82, .iconst 0, 1, 0, []), (83, .goto 6, 3, 0, []), (86, .ldc_w 456, 3, 0, []), (89, .istore 4, 2, 0, []), (91, .iload_n 3, 1, 0, []), (92, .ifCond .ne 7, 3, 0, []), (95, .iconst (-1), 1, 0, []), (96, .goto 4, 3, 0, []), (99, .iconst 0, 1, 0, []), (100, .istore 5, 2, 0, []), (102, .aload_n 0, 1, 0, []), (103, .getfield 137, 3, 0, []), (106, .iconst 0, 1, 0, []), (107, .iconst (-1), 1, 0, []), (108, .iastore, 1, 0, []), (109, .iload 5, 2, 0, []), (111, .ifCond .lt 129, 3, 0, []), (114, .aload_n 0, 1, 0, []), (115, .getfield 137, 3, 0, []), (118, .iload 5, 2, 0, []), (120, .dup2, 1, 0, []), (121, .iaload, 1, 0, []), (122, .iconst 1, 1, 0, []), (123, .iadd, 1, 0, []), (124, .iastore, 1, 0, []), (125, .aload_n 0, 1, 0, []), (126, .getfield 137, 3, 0, []), (129, .iload 5, 2, 0, []), (131, .iaload, 1, 0, []), (132, .iload_n 3, 1, 0, []), (133, .if_icmp .ne 9, 3, 0, []), (136, .iinc 5 (-1), 3, 0, []), (139, .goto (-30), 3, 0, []), (142, .aload_n 0, 1, 0, []), (143, .iload 5, 2, 0, []), (145, .invokevirtual 475, 3, 0, []), (148, .ifCond .eq (-39), 3, 0, []), (151, .iload 5, 2, 0, []), (153, .iload_n 3, 1, 0, []), (154, .iconst 1, 1, 0, []), (155, .isub, 1, 0, []), (156, .if_icmp .ne 70, 3, 0, []), (159, .aload_n 0, 1, 0, []), (160, .iload_n 3, 1, 0, []), (161, .invokevirtual 493, 3, 0, []), (164, .istore 6, 2, 0, []), (166, .iconst 0, 1, 0, []), (167, .istore 7, 2, 0, []), (169, .iload 7, 2, 0, []), (171, .iload_n 3, 1, 0, []), (172, .if_icmp .ge 35, 3, 0, []), (175, .iload 6, 2, 0, []), (177, .iload 4, 2, 0, []), (179, .if_icmp .ge 28, 3, 0, []), (182, .aload_n 0, 1, 0, []), (183, .getfield 140, 3, 0, []), (186, .iload 7, 2, 0, []), (188, .aload_n 0, 1, 0, []), (189, .getfield 134, 3, 0, []), (192, .aload_n 0, 1, 0, []), (193, .getfield 137, 3, 0, []), (196, .iload 7, 2, 0, []), (198, .iaload, 1, 0, []), (199, .iaload, 1, 0, []), (200, .iastore, 1, 0, []), (201, .iinc 7 1, 3, 0, []), (204, .goto (-35), 3, 0, []), (207, .iload 6, 2, 0, []), (209, .iload 4, 2, 0, []), (211, .if_icmp .ge 8, 3, 0, []), (214, .iload 6, 2, 0, []), (216, .goto 5, 3, 0, []), (219, .iload 4, 2, 0, []), (221, .istore 4, 2, 0, []), (223, .goto (-114), 3, 0, []), (226, .iinc 5 1, 3, 0, []), (229, .aload_n 0, 1, 0, []), (230, .getfield 137, 3, 0, []), (233, .iload 5, 2, 0, []), (235, .iconst (-1), 1, 0, []), (236, .iastore, 1, 0, []), (237, .goto (-128), 3, 0, []), (240, .iload 4, 2, 0, []), (242, .ldc_w 456, 3, 0, []), (245, .if_icmp .lt 7, 3, 0, []), (248, .iconst (-1), 1, 0, []), (249, .goto 19, 3, 0, []), (252, .iload_n 2, 1, 0, []), (253, .iconst (-1), 1, 0, []), (254, .if_icmp .ne 8, 3, 0, []), (257, .iload 4, 2, 0, []), (259, .goto 9, 3, 0, []), (262, .aload_n 0, 1, 0, []), (263, .getfield 140, 3, 0, []), (266, .iload_n 2, 1, 0, []), (267, .iaload, 1, 0, []), (268, .ireturn, 1, 0, [])]
theorem zd_X12_round : ∀ q ∈ zc_X12_round, decode prog_14_method_96_code q.1 = .ok (q.2.1, q.2.2.1) := by decide +kernel
def zc_X12_findWays : List (Nat × ClassFile.Instr × Nat × Nat × List (Nat × Int × Nat)) := [(0, .iconst 0, 1, 0, []), (1, .istore_n 1, 1, 0, []), (2, .iload_n 1, 1, 0, []), (3, .bipush 8, 2, 0, []), (5, .if_icmp .ge 69, 3, 0, []), (8, .iconst 0, 1, 0, []), (9, .istore_n 2, 1, 0, []), (10, .iload_n 2, 1, 0, []), (11, .bipush 8, 2, 0, []), (13, .if_icmp .ge 55, 3, 0, []), (16, .aload_n 0, 1, 0, []), (17, .getfield 13, 3, 0, []), (20, .bipush 89, 2, 0, []), (22, .bipush 8, 2, 0, []), (24, .iload_n 1, 1, 0, []), (25, .imul, 1, 0, []), (26, .iadd, 1, 0, []), (27, .iload_n 2, 1, 0, []), (28, .iadd, 1, 0, []), (29, .iaload, 1, 0, []), (30, .istore_n 3, 1, 0, []), (31, .aload_n 0, 1, 0, []), (32, .getfield 143, 3, 0, []), (35, .bipush 8, 2, 0, []), (37, .iload_n 1, 1, 0, []), (38, .imul, 1, 0, []), (39, .iload_n 2, 1, 0, []), (40, .iadd, 1, 0, []), (41, .iload_n 1, 1, 0, []), (42, .iload_n 2, 1, 0, []), (43, .if_icmp .ne 7, 3, 0, []), (46, .iconst 0, 1, 0, []), (47, .goto 14, 3, 0, []), (50, .iload_n 3, 1, 0, []), (51, .ifCond .ne 9, 3, 0, []), (54, .ldc_w 456, 3, 0, []), (57, .goto 4, 3, 0, []), (60, .iload_n 3, 1, 0, []), (61, .iastore, 1, 0, []), (62, .iinc 2 1, 3, 0, []), (65, .goto (-55), 3, 0, []), (68, .iinc 1 1, 3, 0, []), (71, .goto (-69), 3, 0, []), (74, .iconst 0, 1, 0, []), (75, .istore_n 1, 1, 0, []), (76, .iload_n 1, 1, 0, []), (77, .bipush 8, 2, 0, []), (79, .if_icmp .ge 105, 3, 0, []), (82, .iconst 0, 1, 0, []), (83, .istore_n 2, 1, 0, []), (84, .iload_n 2, 1, 0, []), (85, .bipush 8, 2, 0, []), (87, .if_icmp .ge 91, 3, 0, []), (90, .iconst 0, 1, 0, []), (91, .istore_n 3, 1, 0, []), (92, .iload_n 3, 1, 0, []), (93, .bipush 8, 2, 0, []), (95, .if_icmp .ge 77, 3, 0, []), (98, .aload_n 0, 1, 0, []), (99, .getfield 143, 3, 0, []), (102, .bipush 8, 2, 0, []), (104, .iload_n 2, 1, 0, []), (105, .imul, 1, 0, []), (106, .iload_n 1, 1, 0, []), (107, .iadd, 1, 0, []), (108, .iaload, 1, 0, []), (109, .aload_n 0, 1, 0, []), (110, .getfield 143, 3, 0, []), (113, .bipush 8, 2, 0, []), (115, .iload_n 1, 1, 0, []), (116, .imul, 1, 0, []), (117, .iload_n 3, 1, 0, []), (118, .iadd, 1, 0, []), (119, .iaload, 1, 0, []), (120, .iadd, 1, 0, []), (121, .istore 4, 2, 0, []), (123, .aload_n 0, 1, 0, []), (124, .getfield 143, 3, 0, []), (127, .bipush 8, 2, 0, []), (129, .iload_n 2, 1, 0, []), (130, .imul, 1, 0, []), (131, .iload_n 3, 1, 0, []), (132, .iadd, 1, 0, []), (133, .iload 4, 2, 0, []), (135, .aload_n 0, 1, 0, []), (136, .getfield 143, 3, 0, []), (139, .bipush 8, 2, 0, []), (141, .iload_n 2, 1, 0, []), (142, .imul, 1, 0, []), (143, .iload_n 3, 1, 0, []), (144, .iadd, 1, 0, []), (145, .iaload, 1, 0, []), (146, .if_icmp .ge 8, 3, 0, []), (149, .iload 4, 2, 0, []), (151, .goto 14, 3, 0, []), (154, .aload_n 0, 1, 0, []), (155, .getfield 143, 3, 0, []), (158, .bipush 8, 2, 0, []), (160, .iload_n 2, 1, 0, []), (161, .imul, 1, 0, []), (162, .iload_n 3, 1, 0, []), (163, .iadd, 1, 0, []), (164, .iaload, 1, 0, []), (165, .iastore, 1, 0, []), (166, .iinc 3 1, 3, 0, []), (169, .goto (-77), 3, 0, []), (172, .iinc 2 1, 3, 0, []), (175, .goto (-91), 3, 0, []), (178, .iinc 1 1, 3, 0, []), (181, .goto (-105), 3, 0, []), (184, .return_, 1, 0, [])]
theorem zd_X12_findWays : ∀ q ∈ zc_X12_findWays, decode prog_14_method_94_code q.1 = .ok (q.2.1, q.2.2.1) := by decide +kernel
def zc_X12_goRound : List (Nat × ClassFile.Instr × Nat × Nat × List (Nat × Int × Nat)) := [(0, .iconst 0, 1, 0, []), (1, .istore_n 2, 1, 0, []), (2, .iconst 0, 1, 0, []), (3, .istore_n 3, 1, 0, []), (4, .iconst 0, 1, 0, []), (5, .istore 4, 2, 0, []), (7, .iload 4, 2, 0, []), (9, .iload_n 1, 1, 0, []), (10, .if_icmp .ge 49, 3, 0, []), (13, .aload_n 0, 1, 0, []), (14, .getfield 134, 3, 0, []), (17, .aload_n 0, 1, 0, []), (18, .getfield 137, 3, 0, []), (21, .iload 4, 2, 0, []), (23, .iaload, 1, 0, []), (24, .iaload, 1, 0, []), (25, .istore 5, 2, 0, []), (27, .iload_n 3, 1, 0, []), (28, .aload_n 0, 1, 0, []), (29, .getfield 143, 3, 0, []), (32, .bipush 8, 2, 0, []), (34, .iload_n 2, 1, 0, []), (35, .imul, 1, 0, []), (36, .iload 5, 2, 0, []), (38, .iadd, 1, 0, []), (39, .iaload, 1, 0, []), (40, .iadd, 1, 0, []), (41, .i2l, 1, 0, []), (42, .iconst 0, 1, 0, []), (43, .ldc_w 456, 3, 0, []), (46, .invokestatic 427, 3, 0, []), (49, .istore_n 3, 1, 0, []), (50, .iload 5, 2, 0, []), (52, .istore_n 2, 1, 0, []), (53, .iinc 4 1, 3, 0, []), (56, .goto (-49), 3, 0, []), (59, .iload_n 3, 1, 0, []), (60, .aload_n 0, 1, 0, []), (61, .getfield 143, 3, 0, []), (64, .bipush 8, 2, 0, []), (66, .iload_n 2, 1, 0, []), (67, .imul, 1, 0, []), (68, .iaload, 1, 0, []), (69, .iadd, 1, 0, []), (70, .i2l, 1, 0, []), (71, .iconst 0, 1, 0, []), (72, .ldc_w 456, 3, 0, []), (75, .invokestatic 427, 3, 0, []), (78, .ireturn, 1, 0, [])]
theorem zd_X12_goRound : ∀ q ∈ zc_X12_goRound, decode prog_14_method_95_code q.1 = .ok (q.2.1, q.2.2.1) := by decide +kernel
def zc_X12_game : List (Nat × ClassFile.Instr × Nat × Nat × List (Nat × Int × Nat)) := [(0, .aload_n 0, 1, 0, []), (1, .iconst 0, 1, 0, []), (2, .putfield 161, 3, 0, []), (5, .iload_n 1, 1, 0, []), (6, .i2l, 1, 0, []), (7, .lconst 0, 1, 0, []), (8, .ldc2_w 431, 3, 0, []), (11, .invokestatic 181, 3, 0, []), (14, .ifCond .ne 5, 3, 0, []), (17, .iconst (-1), 1, 0, []), (18, .ireturn, 1, 0, []), (19, .bipush 12, 2, 0, []), (21, .istore_n 2, 1, 0, []), (22, .iload_n 2, 1, 0, []), (23, .ifCond .lt 63, 3, 0, []), (26, .aload_n 0, 1, 0, []), (27, .getfield 146, 3, 0, []), (30, .iload_n 2, 1, 0, []), (31, .iconst 0, 1, 0, []), (32, .iastore, 1, 0, []), (33, .iconst 3, 1, 0, []), (34, .istore_n 3, 1, 0, []), (35, .iload_n 3, 1, 0, []), (36, .ifCond .le 44, 3, 0, []), (39, .aload_n 0, 1, 0, []), (40, .getfield 146, 3, 0, []), (43, .iload_n 2, 1, 0, []), (44, .iload_n 2, 1, 0, []), (45, .iload_n 3, 1, 0, []), (46, .iadd, 1, 0, []), (47, .bipush 12, 2, 0, []), (49, .if_icmp .gt 18, 3, 0, []), (52, .aload_n 0, 1, 0, []), (53, .getfield 146, 3, 0, []), (56, .iload_n 2, 1, 0, []), (57, .iload_n 3, 1, 0, []), (58, .iadd, 1, 0, []), (59, .iaload, 1, 0, []), (60, .ifCond .ne 7, 3, 0, []), (63, .iload_n 3, 1, 0, []), (64, .goto 9, 3, 0, []), (67, .aload_n 0, 1, 0, []), (68, .getfield 146, 3, 0, []), (71, .iload_n 2, 1, 0, []), (72, .iaload, 1, 0, []), (73, .iastore, 1, 0, []), (74, .iinc 3 (-1), 3, 0, []), (77, .goto (-42), 3, 0, []), (80, .iinc 2 (-1), 3, 0, []), (83, .goto (-61), 3, 0, []), (86, .aload_n 0, 1, 0, []), (87, .getfield 146, 3, 0, []), (90, .iload_n 1, 1, 0, []), (91, .iaload, 1, 0, []), (92, .ireturn, 1, 0, [])]
theorem zd_X12_game : ∀ q ∈ zc_X12_game, decode prog_14_method_97_code q.1 = .ok (q.2.1, q.2.2.1) := by decide +kernel
def zc_X12_wind : List (Nat × ClassFile.Instr × Nat × Nat × List (Nat × Int × Nat)) := [(0, .aload_n 0, 1, 0, []), (1, .iconst 0, 1, 0, []), (2, .putfield 161, 3, 0, []), (5, .aload_n 0, 1, 0, []), (6, .aload_n 0, 1, 0, []), (7, .iload_n 1, 1, 0, []), (8, .invokevirtual 502, 3, 0, []), (11, .invokevirtual 170, 3, 0, []), (14, .ireturn, 1, 0, [])]
theorem zd_X12_wind : ∀ q ∈ zc_X12_wind, decode prog_14_method_100_code q.1 = .ok (q.2.1, q.2.2.1) := by decide +kernel
def zc_X12_windNow : List (Nat × ClassFile.Instr × Nat × Nat × List (Nat × Int × Nat)) := [(0, .iload_n 1, 1, 0, []), (1, .i2l, 1, 0, []), (2, .lconst 0, 1, 0, []), (3, .ldc2_w 431, 3, 0, []), (6, .invokestatic 181, 3, 0, []), (9, .ifCond .ne 5, 3, 0, []), (12, .iconst (-1), 1, 0, []), (13, .ireturn, 1, 0, []), (14, .aload_n 0, 1, 0, []), (15, .getfield 13, 3, 0, []), (18, .bipush 10, 2, 0, []), (20, .iaload, 1, 0, []), (21, .iconst (-1), 1, 0, []), (22, .if_icmp .ne 37, 3, 0, []), (25, .aload_n 0, 1, 0, []), (26, .getfield 13, 3, 0, []), (29, .bipush 9, 2, 0, []), (31, .iaload, 1, 0, []), (32, .iconst 1, 1, 0, []), (33, .if_icmp .eq 26, 3, 0, []), (36, .aload_n 0, 1, 0, []), (37, .invokevirtual 411, 3, 0, []), (40, .bipush 7, 2, 0, []), (42, .irem, 1, 0, []), (43, .bipush 6, 2, 0, []), (45, .if_icmp .ne 17, 3, 0, []), (48, .iload_n 1, 1, 0, []), (49, .aload_n 0, 1, 0, []), (50, .getfield 13, 3, 0, []), (53, .bipush 6, 2, 0, []), (55, .iaload, 1, 0, []), (56, .if_icmp .le 6, 3, 0, []), (59, .bipush (-3), 2, 0, []), (61, .ireturn, 1, 0, []), (62, .aload_n 0, 1, 0, []), (63, .iconst 0, 1, 0, []), (64, .invokevirtual 496, 3, 0, []), (67, .aload_n 0, 1, 0, []), (68, .iload_n 1, 1, 0, []), (69, .invokevirtual 499, 3, 0, []), (72, .pop, 1, 0, []), (73, .aload_n 0, 1, 0, []), (74, .getfield 13, 3, 0, []), (77, .bipush 8, 2, 0, []), (79, .iaload, 1, 0, []), (80, .ireturn, 1, 0, [])]
theorem zd_X12_windNow : ∀ q ∈ zc_X12_windNow, decode prog_14_method_99_code q.1 = .ok (q.2.1, q.2.2.1) := by decide +kernel
def zc_X12_remember : List (Nat × ClassFile.Instr × Nat × Nat × List (Nat × Int × Nat)) := [(0, .aload_n 0, 1, 0, []), (1, .getfield 167, 3, 0, []), (4, .bipush 16, 2, 0, []), (6, .if_icmp .ne 71, 3, 0, []), (9, .iconst 0, 1, 0, []), (10, .istore_n 2, 1, 0, []), (11, .iload_n 2, 1, 0, []), (12, .sipush 510, 3, 0, []), (15, .if_icmp .ge 24, 3, 0, []), (18, .aload_n 0, 1, 0, []), (19, .getfield 23, 3, 0, []), (22, .iload_n 2, 1, 0, []), (23, .aload_n 0, 1, 0, []), (24, .getfield 23, 3, 0, []), (27, .iload_n 2, 1, 0, []), (28, .bipush 34, 2, 0, []), (30, .iadd, 1, 0, []), (31, .iaload, 1, 0, []), (32, .iastore, 1, 0, []), (33, .iinc 2 1, 3, 0, []), (36, .goto (-25), 3, 0, []), (39, .iconst 0, 1, 0, []), (40, .istore_n 2, 1, 0, []), (41, .iload_n 2, 1, 0, []), (42, .bipush 15, 2, 0, []), (44, .if_icmp .ge 23, 3, 0, []), (47, .aload_n 0, 1, 0, []), (48, .getfield 26, 3, 0, []), (51, .iload_n 2, 1, 0, []), (52, .aload_n 0, 1, 0, []), (53, .getfield 26, 3, 0, []), (56, .iload_n 2, 1, 0, []), (57, .iconst 1, 1, 0, []), (58, .iadd, 1, 0, []), (59, .iaload, 1, 0, []), (60, .iastore, 1, 0, []), (61, .iinc 2 1, 3, 0, []), (64, .goto (-23), 3, 0, []), (67, .aload_n 0, 1, 0, []), (68, .dup, 1, 0, []), (69, .getfield 167, 3, 0, []), (72, .iconst 1, 1, 0, []), (73, .isub, 1, 0, []), (74, .putfield 167, 3, 0, []), (77, .aload_n 0, 1, 0, []), (78, .aload_n 0, 1, 0, []), (79, .getfield 167, 3, 0, []), (82, .invokevirtual 174, 3, 0, []), (85, .aload_n 0, 1, 0, []), (86, .getfield 26, 3, 0, []), (89, .aload_n 0, 1, 0, []), (90, .getfield 167, 3, 0, []), (93, .iload_n 1, 1, 0, []), (94, .iastore, 1, 0, []), (95, .aload_n 0, 1, 0, []), (96, .dup, 1, 0, []), (97, .getfield 167, 3, 0, []), (100, .iconst 1, 1, 0, []), (101, .iadd, 1, 0, []), (102, .putfield 167, 3, 0, []), (105, .return_, 1, 0, [])]
theorem zd_X12_remember : ∀ q ∈ zc_X12_remember, decode prog_14_method_12_code q.1 = .ok (q.2.1, q.2.2.1) := by decide +kernel
def zc_X12_wear : List (Nat × ClassFile.Instr × Nat × Nat × List (Nat × Int × Nat)) := [(0, .aload_n 0, 1, 0, []), (1, .getfield 13, 3, 0, []), (4, .bipush 8, 2, 0, []), (6, .aload_n 0, 1, 0, []), (7, .getfield 13, 3, 0, []), (10, .bipush 8, 2, 0, []), (12, .iaload, 1, 0, []), (13, .aload_n 0, 1, 0, []), (14, .iload_n 1, 1, 0, []), (15, .invokevirtual 433, 3, 0, []), (18, .isub, 1, 0, []), (19, .i2l, 1, 0, []), (20, .iconst 0, 1, 0, []), (21, .sipush 9999, 3, 0, []), (24, .invokestatic 427, 3, 0, []), (27, .iastore, 1, 0, []), (28, .aload_n 0, 1, 0, []), (29, .getfield 13, 3, 0, []), (32, .bipush 9, 2, 0, []), (34, .aload_n 0, 1, 0, []), (35, .getfield 13, 3, 0, []), (38, .bipush 8, 2, 0, []), (40, .iaload, 1, 0, []), (41, .ifCond .ne 7, 3, 0, []), (44, .iconst 1, 1, 0, []), (45, .goto 4, 3, 0, []), (48, .iconst 0, 1, 0, []), (49, .iastore, 1, 0, []), (50, .aload_n 0, 1, 0, []), (51, .getfield 13, 3, 0, []), (54, .bipush 10, 2, 0, []), (56, .aload_n 0, 1, 0, []), (57, .getfield 13, 3, 0, []), (60, .bipush 8, 2, 0, []), (62, .iaload, 1, 0, []), (63, .ifCond .ne 7, 3, 0, []), (66, .iconst (-1), 1, 0, []), (67, .goto 4, 3, 0, []), (70, .iload_n 1, 1, 0, []), (71, .iastore, 1, 0, []), (72, .aload_n 0, 1, 0, []), (73, .getfield 13, 3, 0, []), (76, .bipush 8, 2, 0, []), (78, .iaload, 1, 0, []), (79, .ifCond .ne 7, 3, 0, []), (82, .iconst 1, 1, 0, []), (83, .goto 4, 3, 0, []), (86, .iconst 0, 1, 0, []), (87, .ireturn, 1, 0, [])]
theorem zd_X12_wear : ∀ q ∈ zc_X12_wear, decode prog_14_method_98_code q.1 = .ok (q.2.1, q.2.2.1) := by decide +kernel
def zc_X12_key : List (Nat × ClassFile.Instr × Nat × Nat × List (Nat × Int × Nat)) := [(0, .aload_n 0, 1, 0, []), (1, .iconst 0, 1, 0, []), (2, .putfield 161, 3, 0, []), (5, .aload_n 0, 1, 0, []), (6, .aload_n 0, 1, 0, []), (7, .iload_n 1, 1, 0, []), (8, .iload_n 2, 1, 0, []), (9, .invokevirtual 508, 3, 0, []), (12, .invokevirtual 170, 3, 0, []), (15, .ireturn, 1, 0, [])]
theorem zd_X12_key : ∀ q ∈ zc_X12_key, decode prog_14_method_102_code q.1 = .ok (q.2.1, q.2.2.1) := by decide +kernel
def zc_X12_keyNow : List (Nat × ClassFile.Instr × Nat × Nat × List (Nat × Int × Nat)) := [(0, .iload_n 2, 1, 0, []), (1, .i2l, 1, 0, []), (2, .lconst 1, 1, 0, []), (3, .ldc2_w 199, 3, 0, []), (6, .invokestatic 181, 3, 0, []), (9, .ifCond .ne 5, 3, 0, []), (12, .iconst (-1), 1, 0, []), (13, .ireturn, 1, 0, []), (14, .aload_n 0, 1, 0, []), (15, .iload_n 1, 1, 0, []), (16, .invokevirtual 201, 3, 0, []), (19, .ifCond .ne 6, 3, 0, []), (22, .bipush (-2), 2, 0, []), (24, .ireturn, 1, 0, []), (25, .aload_n 0, 1, 0, []), (26, .iload_n 1, 1, 0, []), (27, .iconst 2, 1, 0, []), (28, .invokevirtual 207, 3, 0, []), (31, .iload_n 2, 1, 0, []), (32, .iadd, 1, 0, []), (33, .istore_n 3, 1, 0, []), (34, .iload_n 3, 1, 0, []), (35, .bipush 9, 2, 0, []), (37, .if_icmp .gt 12, 3, 0, []), (40, .aload_n 0, 1, 0, []), (41, .iload_n 1, 1, 0, []), (42, .iload_n 3, 1, 0, []), (43, .invokevirtual 505, 3, 0, []), (46, .ifCond .eq 6, 3, 0, []), (49, .bipush (-3), 2, 0, []), (51, .ireturn, 1, 0, []), (52, .aload_n 0, 1, 0, []), (53, .iconst 1, 1, 0, []), (54, .invokevirtual 496, 3, 0, []), (57, .aload_n 0, 1, 0, []), (58, .getfield 13, 3, 0, []), (61, .bipush 11, 2, 0, []), (63, .iconst 3, 1, 0, []), (64, .iload_n 1, 1, 0, []), (65, .imul, 1, 0, []), (66, .iadd, 1, 0, []), (67, .iconst 2, 1, 0, []), (68, .iadd, 1, 0, []), (69, .iload_n 3, 1, 0, []), (70, .iastore, 1, 0, []), (71, .iload_n 3, 1, 0, []), (72, .ireturn, 1, 0, [])]
theorem zd_X12_keyNow : ∀ q ∈ zc_X12_keyNow, decode prog_14_method_101_code q.1 = .ok (q.2.1, q.2.2.1) := by decide +kernel
def zc_X12_isBarred : List (Nat × ClassFile.Instr × Nat × Nat × List (Nat × Int × Nat)) := [(0, .aload_n 0, 1, 0, []), (1, .aload_n 0, 1, 0, []), (2, .getfield 13, 3, 0, []), (5, .bipush 10, 2, 0, []), (7, .iaload, 1, 0, []), (8, .iconst (-1), 1, 0, []), (9, .if_icmp .ne 7, 3, 0, []), (12, .iconst 0, 1, 0, []), (13, .goto 10, 3, 0, []), (16, .aload_n 0, 1, 0, []), (17, .getfield 13, 3, 0, []), (20, .bipush 10, 2, 0, []), (22, .iaload, 1, 0, []), (23, .iconst (-1), 1, 0, []), (24, .iconst (-1), 1, 0, []), (25, .iload_n 1, 1, 0, []), (26, .invokevirtual 417, 3, 0, []), (29, .aload_n 0, 1, 0, []), (30, .getfield 101, 3, 0, []), (33, .bipush 6, 2, 0, []), (35, .iload_n 2, 1, 0, []), (36, .i2l, 1, 0, []), (37, .lastore, 1, 0, []), (38, .aload_n 0, 1, 0, []), (39, .iconst 4, 1, 0, []), (40, .lconst 0, 1, 0, []), (41, .invokevirtual 423, 3, 0, []), (44, .lconst 1, 1, 0, []), (45, .lcmp, 1, 0, []), (46, .ifCond .ne 7, 3, 0, []), (49, .iconst 1, 1, 0, []), (50, .goto 4, 3, 0, []), (53, .iconst 0, 1, 0, []), (54, .ireturn, 1, 0, [])]
theorem zd_X12_isBarred : ∀ q ∈ zc_X12_isBarred, decode prog_14_method_73_code q.1 = .ok (q.2.1, q.2.2.1) := by decide +kernel
def zc_X12_run : List (Nat × ClassFile.Instr × Nat × Nat × List (Nat × Int × Nat)) := [(0, .aload_n 0, 1, 0, []), (1, .iconst 0, 1, 0, []), (2, .putfield 161, 3, 0, []), (5, .aload_n 0, 1, 0, []), (6, .aload_n 0, 1, 0, []), (7, .invokevirtual 514, 3, 0, []), (10, .invokevirtual 170, 3, 0, []), (13, .ireturn, 1, 0, [])]
theorem zd_X12_run : ∀ q ∈ zc_X12_run, decode prog_14_method_105_code q.1 = .ok (q.2.1, q.2.2.1) := by decide +kernel
def zc_X12_runNow : List (Nat × ClassFile.Instr × Nat × Nat × List (Nat × Int × Nat)) := [(0, .aload_n 0, 1, 0, []), (1, .getfield 13, 3, 0, []), (4, .bipush 10, 2, 0, []), (6, .iaload, 1, 0, []), (7, .iconst (-1), 1, 0, []), (8, .if_icmp .eq 13, 3, 0, []), (11, .aload_n 0, 1, 0, []), (12, .invokevirtual 411, 3, 0, []), (15, .sipush 999, 3, 0, []), (18, .if_icmp .ne 6, 3, 0, []), (21, .bipush (-3), 2, 0, []), (23, .ireturn, 1, 0, []), (24, .aload_n 0, 1, 0, []), (25, .iconst 2, 1, 0, []), (26, .invokevirtual 496, 3, 0, []), (29, .aload_n 0, 1, 0, []), (30, .invokevirtual 511, 3, 0, []), (33, .ireturn, 1, 0, [])]
theorem zd_X12_runNow : ∀ q ∈ zc_X12_runNow, decode prog_14_method_104_code q.1 = .ok (q.2.1, q.2.2.1) := by decide +kernel
def zc_X12_runDay : List (Nat × ClassFile.Instr × Nat × Nat × List (Nat × Int × Nat)) := [(0, .aload_n 0, 1, 0, []), (1, .aload_n 0, 1, 0, []), (2, .getfield 13, 3, 0, []), (5, .bipush 10, 2, 0, []), (7, .iaload, 1, 0, []), (8, .invokevirtual 457, 3, 0, []), (11, .iconst 0, 1, 0, []), (12, .istore_n 1, 1, 0, []), (13, .iconst 0, 1, 0, []), (14, .istore_n 2, 1, 0, []), (15, .iload_n 2, 1, 0, []), (16, .aload_n 0, 1, 0, []), (17, .getfield 13, 3, 0, []), (20, .iconst 1, 1, 0, []), (21, .iaload, 1, 0, []), (22, .if_icmp .ge 42, 3, 0, []), (25, .iload_n 1, 1, 0, []), (26, .aload_n 0, 1, 0, []), (27, .getfield 122, 3, 0, []), (30, .iload_n 2, 1, 0, []), (31, .iaload, 1, 0, []), (32, .iconst (-1), 1, 0, []), (33, .if_icmp .eq 7, 3, 0, []), (36, .iconst 1, 1, 0, []), (37, .goto 4, 3, 0, []), (40, .iconst 0, 1, 0, []), (41, .iadd, 1, 0, []), (42, .istore_n 1, 1, 0, []), (43, .aload_n 0, 1, 0, []), (44, .getfield 13, 3, 0, []), (47, .bipush 29, 2, 0, []), (49, .iload_n 2, 1, 0, []), (50, .iadd, 1, 0, []), (51, .aload_n 0, 1, 0, []), (52, .getfield 119, 3, 0, []), (55, .iload_n 2, 1, 0, []), (56, .iaload, 1, 0, []), (57, .iastore, 1, 0, []), (58, .iinc 2 1, 3, 0, []), (61, .goto (-46), 3, 0, []), (64, .iconst 0, 1, 0, []), (65, .istore_n 2, 1, 0, []), (66, .iload_n 2, 1, 0, []), (67, .aload_n 0, 1, 0, []), (68, .getfield 13, 3, 0, []), (71, .iconst 0, 1, 0, []), (72, .iaload, 1, 0, []), (73, .if_icmp .ge 70, 3, 0, []), (76, .bipush 11, 2, 0, []), (78, .iconst 3, 1, 0, []), (79, .iload_n 2, 1, 0, []), (80, .imul, 1, 0, []), (81, .iadd, 1, 0, []), (82, .istore_n 3, 1, 0, []), (83, .aload_n 0, 1, 0, []), (84, .getfield 13, 3, 0, []), (87, .iload_n 3, 1, 0, []), (88, .iconst 0, 1, 0, []), (89, .iadd, 1, 0, []), (90, .dup2, 1, 0, []), (91, .iaload, 1, 0, []), (92, .aload_n 0, 1, 0, []), (93, .getfield 13, 3, 0, []), (96, .iload_n 3, 1, 0, []), (97, .iconst 0, 1, 0, []), (98, .iadd, 1, 0, []), (99, .iaload, 1, 0, []), (100, .ifCond .le 7, 3, 0, []), (103, .iconst 1, 1, 0, []), (104, .goto 4, 3, 0, []), (107, .iconst 0, 1, 0, []), (108, .isub, 1, 0, []), (109, .iastore, 1, 0, []), (110, .aload_n 0, 1, 0, []), (111, .getfield 13, 3, 0, []), (114, .iload_n 3, 1, 0, []), (115, .iconst 2, 1, 0, []), (116, .iadd, 1, 0, []), (117, .dup2, 1, 0, []), (118, .iaload, 1, 0, []), (119, .aload_n 0, 1, 0, []), (120, .getfield 13, 3, 0, []), (123, .iload_n 3, 1, 0, []), (124, .iconst 2, 1, 0, []), (125, .iadd, 1, 0, []), (126, .iaload, 1, 0, []), (127, .ifCond .le 7, 3, 0, []), (130, .iconst 1, 1, 0, []), (131, .goto 4, 3, 0, []), (134, .iconst 0, 1, 0, []), (135, .isub, 1, 0, []), (136, .iastore, 1, 0, []), (137, .iinc 2 1, 3, 0, []), (140, .goto (-74), 3, 0, []), (143, .aload_n 0, 1, 0, []), (144, .getfield 13, 3, 0, []), (147, .bipush 10, 2, 0, []), (149, .iconst (-1), 1, 0, []), (150, .iastore, 1, 0, []), (151, .aload_n 0, 1, 0, []), (152, .getfield 13, 3, 0, []), (155, .iconst 5, 1, 0, []), (156, .dup2, 1, 0, []), (157, .iaload, 1, 0, []), (158, .iconst 1, 1, 0, []), (159, .iadd, 1, 0, []), (160, .iastore, 1, 0, []), (161, .iload_n 1, 1, 0, []), (162, .ireturn, 1, 0, [])]
theorem zd_X12_runDay : ∀ q ∈ zc_X12_runDay, decode prog_14_method_103_code q.1 = .ok (q.2.1, q.2.2.1) := by decide +kernel
def zc_X12_mend : List (Nat × ClassFile.Instr × Nat × Nat × List (Nat × Int × Nat)) := [(0, .aload_n 0, 1, 0, []), (1, .iconst 0, 1, 0, []), (2, .putfield 161, 3, 0, []), (5, .aload_n 0, 1, 0, []), (6, .aload_n 0, 1, 0, []), (7, .iload_n 1, 1, 0, []), (8, .invokevirtual 519, 3, 0, []), (11, .invokevirtual 170, 3, 0, []), (14, .ireturn, 1, 0, [])]
theorem zd_X12_mend : ∀ q ∈ zc_X12_mend, decode prog_14_method_107_code q.1 = .ok (q.2.1, q.2.2.1) := by decide +kernel
def zc_X12_mendNow : List (Nat × ClassFile.Instr × Nat × Nat × List (Nat × Int × Nat)) := [(0, .iload_n 1, 1, 0, []), (1, .i2l, 1, 0, []), (2, .lconst 1, 1, 0, []), (3, .ldc2_w 517, 3, 0, []), (6, .invokestatic 181, 3, 0, []), (9, .ifCond .ne 5, 3, 0, []), (12, .iconst (-1), 1, 0, []), (13, .ireturn, 1, 0, []), (14, .aload_n 0, 1, 0, []), (15, .getfield 13, 3, 0, []), (18, .bipush 10, 2, 0, []), (20, .iaload, 1, 0, []), (21, .iconst (-1), 1, 0, []), (22, .if_icmp .eq 6, 3, 0, []), (25, .bipush (-3), 2, 0, []), (27, .ireturn, 1, 0, []), (28, .aload_n 0, 1, 0, []), (29, .iconst 3, 1, 0, []), (30, .invokevirtual 496, 3, 0, []), (33, .aload_n 0, 1, 0, []), (34, .getfield 13, 3, 0, []), (37, .bipush 8, 2, 0, []), (39, .aload_n 0, 1, 0, []), (40, .getfield 13, 3, 0, []), (43, .bipush 8, 2, 0, []), (45, .iaload, 1, 0, []), (46, .iload_n 1, 1, 0, []), (47, .iadd, 1, 0, []), (48, .i2l, 1, 0, []), (49, .iconst 0, 1, 0, []), (50, .sipush 9999, 3, 0, []), (53, .invokestatic 427, 3, 0, []), (56, .iastore, 1, 0, []), (57, .aload_n 0, 1, 0, []), (58, .getfield 13, 3, 0, []), (61, .bipush 9, 2, 0, []), (63, .iconst 0, 1, 0, []), (64, .iastore, 1, 0, []), (65, .aload_n 0, 1, 0, []), (66, .getfield 13, 3, 0, []), (69, .bipush 8, 2, 0, []), (71, .iaload, 1, 0, []), (72, .ireturn, 1, 0, [])]
theorem zd_X12_mendNow : ∀ q ∈ zc_X12_mendNow, decode prog_14_method_106_code q.1 = .ok (q.2.1, q.2.2.1) := by decide +kernel
def zc_X12_orders : List (Nat × ClassFile.Instr × Nat × Nat × List (Nat × Int × Nat)) := [(0, .aload_n 0, 1, 0, []), (1, .iconst 0, 1, 0, []), (2, .putfield 161, 3, 0, []), (5, .aload_n 0, 1, 0, []), (6, .iconst (-1), 1, 0, []), (7, .putfield 152, 3, 0, []), (10, .aload_n 0, 1, 0, []), (11, .iconst 1, 1, 0, []), (12, .invokevirtual 379, 3, 0, []), (15, .aload_n 0, 1, 0, []), (16, .invokevirtual 549, 3, 0, []), (19, .aload_n 0, 1, 0, []), (20, .getfield 240, 3, 0, []), (23, .ifCond .ne 23, 3, 0, []), (26, .aload_n 0, 1, 0, []), (27, .bipush 59, 2, 0, []), (29, .invokevirtual 313, 3, 0, []), (32, .ifCond .eq 14, 3, 0, []), (35, .aload_n 0, 1, 0, []), (36, .invokevirtual 244, 3, 0, []), (39, .aload_n 0, 1, 0, []), (40, .invokevirtual 549, 3, 0, []), (43, .goto (-24), 3, 0, []), (46, .aload_n 0, 1, 0, []), (47, .invokevirtual 385, 3, 0, []), (50, .aload_n 0, 1, 0, []), (51, .getfield 240, 3, 0, []), (54, .ifCond .eq 10, 3, 0, []), (57, .aload_n 0, 1, 0, []), (58, .bipush (-6), 2, 0, []), (60, .invokevirtual 170, 3, 0, []), (63, .ireturn, 1, 0, []), (64, .aload_n 0, 1, 0, []), (65, .bipush 17, 2, 0, []), (67, .invokevirtual 174, 3, 0, []), (70, .aload_n 0, 1, 0, []), (71, .getfield 167, 3, 0, []), (74, .istore_n 1, 1, 0, []), (75, .iconst 0, 1, 0, []), (76, .istore_n 2, 1, 0, []), (77, .iload_n 2, 1, 0, []), (78, .sipush 544, 3, 0, []), (81, .if_icmp .ge 21, 3, 0, []), (84, .aload_n 0, 1, 0, []), (85, .getfield 29, 3, 0, []), (88, .iload_n 2, 1, 0, []), (89, .aload_n 0, 1, 0, []), (90, .getfield 23, 3, 0, []), (93, .iload_n 2, 1, 0, []), (94, .iaload, 1, 0, []), (95, .iastore, 1, 0, []), (96, .iinc 2 1, 3, 0, []), (99, .goto (-22), 3, 0, []), (102, .iconst 0, 1, 0, []), (103, .istore_n 2, 1, 0, []), (104, .iload_n 2, 1, 0, []), (105, .bipush 16, 2, 0, []), (107, .if_icmp .ge 21, 3, 0, []), (110, .aload_n 0, 1, 0, []), (111, .getfield 32, 3, 0, []), (114, .iload_n 2, 1, 0, []), (115, .aload_n 0, 1, 0, []), (116, .getfield 26, 3, 0, []), (119, .iload_n 2, 1, 0, []), (120, .iaload, 1, 0, []), (121, .iastore, 1, 0, []), (122, .iinc 2 1, 3, 0, []), (125, .goto (-21), 3, 0, []), (128, .aload_n 0, 1, 0, []), (129, .iconst 0, 1, 0, []), (130, .putfield 540, 3, 0, []), (133, .aload_n 0, 1, 0, []), (134, .iconst (-1), 1, 0, []), (135, .putfield 543, 3, 0, []), (138, .iconst 0, 1, 0, []), (139, .istore_n 2, 1, 0, []), (140, .iload_n 2, 1, 0, []), (141, .aload_n 0, 1, 0, []), (142, .getfield 371, 3, 0, []), (145, .if_icmp .ge 61, 3, 0, []), (148, .iconst 0, 1, 0, []), (149, .istore_n 3, 1, 0, []), (150, .iload_n 3, 1, 0, []), (151, .aload_n 0, 1, 0, []), (152, .getfield 149, 3, 0, []), (155, .bipush 8, 2, 0, []), (157, .iload_n 2, 1, 0, []), (158, .imul, 1, 0, []), (159, .bipush 7, 2, 0, []), (161, .iadd, 1, 0, []), (162, .iaload, 1, 0, []), (163, .if_icmp .ge 37, 3, 0, []), (166, .aload_n 0, 1, 0, []), (167, .bipush 8, 2, 0, []), (169, .iload_n 2, 1, 0, []), (170, .imul, 1, 0, []), (171, .invokevirtual 552, 3, 0, []), (174, .ifCond .ge 20, 3, 0, []), (177, .aload_n 0, 1, 0, []), (178, .iload_n 1, 1, 0, []), (179, .invokevirtual 555, 3, 0, []), (182, .aload_n 0, 1, 0, []), (183, .iload_n 2, 1, 0, []), (184, .putfield 152, 3, 0, []), (187, .aload_n 0, 1, 0, []), (188, .bipush (-3), 2, 0, []), (190, .invokevirtual 170, 3, 0, []), (193, .ireturn, 1, 0, []), (194, .iinc 3 1, 3, 0, []), (197, .goto (-47), 3, 0, []), (200, .iinc 2 1, 3, 0, []), (203, .goto (-63), 3, 0, []), (206, .aload_n 0, 1, 0, []), (207, .aload_n 0, 1, 0, []), (208, .getfield 540, 3, 0, []), (211, .invokevirtual 170, 3, 0, []), (214, .ireturn, 1, 0, [])]
theorem zd_X12_orders : ∀ q ∈ zc_X12_orders, decode prog_14_method_112_code q.1 = .ok (q.2.1, q.2.2.1) := by decide +kernel
def zc_X12_readOrder : List (Nat × ClassFile.Instr × Nat × Nat × List (Nat × Int × Nat)) := [(0, .aload_n 0, 1, 0, []), (1, .ldc2_w 522, 3, 0, []), (4, .invokevirtual 300, 3, 0, []), (7, .ifCond .eq 7, 3, 0, []), (10, .iconst 0, 1, 0, []), (11, .goto 46, 3, 0, []), (14, .aload_n 0, 1, 0, []), (15, .ldc2_w 524, 3, 0, []), (18, .invokevirtual 300, 3, 0, []), (21, .ifCond .eq 7, 3, 0, []), (24, .iconst 1, 1, 0, []), (25, .goto 32, 3, 0, []), (28, .aload_n 0, 1, 0, []), (29, .ldc2_w 526, 3, 0, []), (32, .invokevirtual 300, 3, 0, []), (35, .ifCond .eq 7, 3, 0, []), (38, .iconst 2, 1, 0, []), (39, .goto 18, 3, 0, []), (42, .aload_n 0, 1, 0, []), (43, .ldc2_w 528, 3, 0, []), (46, .invokevirtual 300, 3, 0, []), (49, .ifCond .eq 7, 3, 0, []), (52, .iconst 3, 1, 0, []), (53, .goto 4, 3, 0, []), (56, .iconst (-1), 1, 0, []), (57, .istore_n 1, 1, 0, []), (58, .aload_n 0, 1, 0, []), (59, .iload_n 1, 1, 0, []), (60, .iconst (-1), 1, 0, []), (61, .if_icmp .eq 16, 3, 0, []), (64, .aload_n 0, 1, 0, []), (65, .getfield 371, 3, 0, []), (68, .bipush 12, 2, 0, []), (70, .if_icmp .ge 7, 3, 0, []), (73, .iconst 1, 1, 0, []), (74, .goto 4, 3, 0, []), (77, .iconst 0, 1, 0, []), (78, .invokevirtual 275, 3, 0, []), (81, .aload_n 0, 1, 0, []), (82, .getfield 240, 3, 0, []), (85, .ifCond .eq 4, 3, 0, []), (88, .return_, 1, 0, []), (89, .bipush 8, 2, 0, []), (91, .aload_n 0, 1, 0, []), (92, .getfield 371, 3, 0, []), (95, .imul, 1, 0, []), (96, .istore_n 2, 1, 0, []), (97, .aload_n 0, 1, 0, []), (98, .dup, 1, 0, []), (99, .getfield 371, 3, 0, []), (102, .iconst 1, 1, 0, []), (103, .iadd, 1, 0, []), (104, .putfield 371, 3, 0, []), (107, .iconst 0, 1, 0, []), (108, .istore_n 3, 1, 0, []), (109, .iload_n 3, 1, 0, []), (110, .bipush 8, 2, 0, []), (112, .if_icmp .ge 18, 3, 0, []), (115, .aload_n 0, 1, 0, []), (116, .getfield 149, 3, 0, []), (119, .iload_n 2, 1, 0, []), (120, .iload_n 3, 1, 0, []), (121, .iadd, 1, 0, []), (122, .iconst 0, 1, 0, []), (123, .iastore, 1, 0, []), (124, .iinc 3 1, 3, 0, []), (127, .goto (-18), 3, 0, []), (130, .aload_n 0, 1, 0, []), (131, .getfield 149, 3, 0, []), (134, .iload_n 2, 1, 0, []), (135, .iload_n 1, 1, 0, []), (136, .iastore, 1, 0, []), (137, .iload_n 1, 1, 0, []), (138, .iconst 2, 1, 0, []), (139, .if_icmp .eq 10, 3, 0, []), (142, .aload_n 0, 1, 0, []), (143, .iload_n 2, 1, 0, []), (144, .iconst 1, 1, 0, []), (145, .iadd, 1, 0, []), (146, .invokevirtual 530, 3, 0, []), (149, .iload_n 1, 1, 0, []), (150, .iconst 1, 1, 0, []), (151, .if_icmp .ne 28, 3, 0, []), (154, .aload_n 0, 1, 0, []), (155, .getfield 240, 3, 0, []), (158, .ifCond .ne 14, 3, 0, []), (161, .aload_n 0, 1, 0, []), (162, .aload_n 0, 1, 0, []), (163, .ldc2_w 533, 3, 0, []), (166, .invokevirtual 300, 3, 0, []), (169, .invokevirtual 275, 3, 0, []), (172, .aload_n 0, 1, 0, []), (173, .iload_n 2, 1, 0, []), (174, .iconst 3, 1, 0, []), (175, .iadd, 1, 0, []), (176, .invokevirtual 530, 3, 0, []), (179, .aload_n 0, 1, 0, []), (180, .getfield 149, 3, 0, []), (183, .iload_n 2, 1, 0, []), (184, .bipush 7, 2, 0, []), (186, .iadd, 1, 0, []), (187, .iconst 1, 1, 0, []), (188, .iastore, 1, 0, []), (189, .aload_n 0, 1, 0, []), (190, .getfield 240, 3, 0, []), (193, .ifCond .ne 34, 3, 0, []), (196, .aload_n 0, 1, 0, []), (197, .ldc2_w 535, 3, 0, []), (200, .invokevirtual 300, 3, 0, []), (203, .ifCond .eq 24, 3, 0, []), (206, .aload_n 0, 1, 0, []), (207, .invokevirtual 244, 3, 0, []), (210, .aload_n 0, 1, 0, []), (211, .getfield 149, 3, 0, []), (214, .iload_n 2, 1, 0, []), (215, .bipush 7, 2, 0, []), (217, .iadd, 1, 0, []), (218, .aload_n 0, 1, 0, []), (219, .lconst 1, 1, 0, []), (220, .ldc2_w 292, 3, 0, []), (223, .invokevirtual 335, 3, 0, []), (226, .iastore, 1, 0, []), (227, .aload_n 0, 1, 0, []), (228, .getfield 149, 3, 0, []), (231, .iload_n 2, 1, 0, []), (232, .iconst 5, 1, 0, []), (233, .iadd, 1, 0, []), (234, .aload_n 0, 1, 0, []), (235, .getfield 279, 3, 0, []), (238, .iastore, 1, 0, []), (239, .aload_n 0, 1, 0, []), (240, .getfield 240, 3, 0, []), (243, .ifCond .ne 22, 3, 0, []), (246, .aload_n 0, 1, 0, []), (247, .ldc2_w 377, 3, 0, []), (250, .invokevirtual 300, 3, 0, []), (253, .ifCond .eq 12, 3, 0, []), (256, .aload_n 0, 1, 0, []), (257, .invokevirtual 244, 3, 0, []), (260, .aload_n 0, 1, 0, []), (261, .iconst 1, 1, 0, []), (262, .invokevirtual 374, 3, 0, []), (265, .aload_n 0, 1, 0, []), (266, .getfield 149, 3, 0, []), (269, .iload_n 2, 1, 0, []), (270, .bipush 6, 2, 0, []), (272, .iadd, 1, 0, []), (273, .aload_n 0, 1, 0, []), (274, .getfield 279, 3, 0, []), (277, .iastore, 1, 0, []), (278, .return_, 1, 0, [])]
theorem zd_X12_readOrder : ∀ q ∈ zc_X12_readOrder, decode prog_14_method_109_code q.1 = .ok (q.2.1, q.2.2.1) := by decide +kernel
def zc_X12_readSum : List (Nat × ClassFile.Instr × Nat × Nat × List (Nat × Int × Nat)) := [(0, .aload_n 0, 1, 0, []), (1, .getfield 149, 3, 0, []), (4, .iload_n 1, 1, 0, []), (5, .aload_n 0, 1, 0, []), (6, .getfield 279, 3, 0, []), (9, .iastore, 1, 0, []), (10, .aload_n 0, 1, 0, []), (11, .getfield 240, 3, 0, []), (14, .ifCond .ne 8, 3, 0, []), (17, .aload_n 0, 1, 0, []), (18, .iconst 0, 1, 0, []), (19, .invokevirtual 374, 3, 0, []), (22, .aload_n 0, 1, 0, []), (23, .getfield 149, 3, 0, []), (26, .iload_n 1, 1, 0, []), (27, .iconst 1, 1, 0, []), (28, .iadd, 1, 0, []), (29, .aload_n 0, 1, 0, []), (30, .getfield 279, 3, 0, []), (33, .iastore, 1, 0, []), (34, .return_, 1, 0, [])]
theorem zd_X12_readSum : ∀ q ∈ zc_X12_readSum, decode prog_14_method_108_code q.1 = .ok (q.2.1, q.2.2.1) := by decide +kernel
def zc_X12_runOne : List (Nat × ClassFile.Instr × Nat × Nat × List (Nat × Int × Nat)) := [(0, .aload_n 0, 1, 0, []), (1, .getfield 104, 3, 0, []), (4, .iconst 1, 1, 0, []), (5, .aload_n 0, 1, 0, []), (6, .invokevirtual 411, 3, 0, []), (9, .i2l, 1, 0, []), (10, .lastore, 1, 0, []), (11, .aload_n 0, 1, 0, []), (12, .getfield 104, 3, 0, []), (15, .iconst 2, 1, 0, []), (16, .aload_n 0, 1, 0, []), (17, .getfield 13, 3, 0, []), (20, .bipush 10, 2, 0, []), (22, .iaload, 1, 0, []), (23, .i2l, 1, 0, []), (24, .lastore, 1, 0, []), (25, .aload_n 0, 1, 0, []), (26, .getfield 104, 3, 0, []), (29, .iconst 3, 1, 0, []), (30, .aload_n 0, 1, 0, []), (31, .getfield 13, 3, 0, []), (34, .bipush 8, 2, 0, []), (36, .iaload, 1, 0, []), (37, .i2l, 1, 0, []), (38, .lastore, 1, 0, []), (39, .aload_n 0, 1, 0, []), (40, .getfield 104, 3, 0, []), (43, .iconst 4, 1, 0, []), (44, .aload_n 0, 1, 0, []), (45, .getfield 540, 3, 0, []), (48, .i2l, 1, 0, []), (49, .lastore, 1, 0, []), (50, .aload_n 0, 1, 0, []), (51, .getfield 104, 3, 0, []), (54, .iconst 5, 1, 0, []), (55, .aload_n 0, 1, 0, []), (56, .getfield 543, 3, 0, []), (59, .i2l, 1, 0, []), (60, .lastore, 1, 0, []), (61, .aload_n 0, 1, 0, []), (62, .iconst 0, 1, 0, []), (63, .putfield 537, 3, 0, []), (66, .aload_n 0, 1, 0, []), (67, .getfield 149, 3, 0, []), (70, .iload_n 1, 1, 0, []), (71, .iconst 5, 1, 0, []), (72, .iadd, 1, 0, []), (73, .iaload, 1, 0, []), (74, .aload_n 0, 1, 0, []), (75, .getfield 149, 3, 0, []), (78, .iload_n 1, 1, 0, []), (79, .bipush 6, 2, 0, []), (81, .iadd, 1, 0, []), (82, .iaload, 1, 0, []), (83, .if_icmp .ge 24, 3, 0, []), (86, .aload_n 0, 1, 0, []), (87, .iload_n 1, 1, 0, []), (88, .iconst 5, 1, 0, []), (89, .iadd, 1, 0, []), (90, .invokevirtual 546, 3, 0, []), (93, .istore_n 2, 1, 0, []), (94, .aload_n 0, 1, 0, []), (95, .getfield 537, 3, 0, []), (98, .ifCond .ne 7, 3, 0, []), (101, .iload_n 2, 1, 0, []), (102, .ifCond .ne 5, 3, 0, []), (105, .iconst 0, 1, 0, []), (106, .ireturn, 1, 0, []), (107, .aload_n 0, 1, 0, []), (108, .iload_n 1, 1, 0, []), (109, .iconst 1, 1, 0, []), (110, .iadd, 1, 0, []), (111, .invokevirtual 546, 3, 0, []), (114, .istore_n 2, 1, 0, []), (115, .aload_n 0, 1, 0, []), (116, .iload_n 1, 1, 0, []), (117, .iconst 3, 1, 0, []), (118, .iadd, 1, 0, []), (119, .invokevirtual 546, 3, 0, []), (122, .istore_n 3, 1, 0, []), (123, .aload_n 0, 1, 0, []), (124, .getfield 537, 3, 0, []), (127, .ifCond .eq 6, 3, 0, []), (130, .bipush (-3), 2, 0, []), (132, .ireturn, 1, 0, []), (133, .aload_n 0, 1, 0, []), (134, .getfield 149, 3, 0, []), (137, .iload_n 1, 1, 0, []), (138, .iaload, 1, 0, []), (139, .istore 4, 2, 0, []), (141, .iload 4, 2, 0, []), (143, .ifCond .ne 11, 3, 0, []), (146, .aload_n 0, 1, 0, []), (147, .iload_n 2, 1, 0, []), (148, .invokevirtual 502, 3, 0, []), (151, .goto 36, 3, 0, []), (154, .iload 4, 2, 0, []), (156, .iconst 1, 1, 0, []), (157, .if_icmp .ne 12, 3, 0, []), (160, .aload_n 0, 1, 0, []), (161, .iload_n 2, 1, 0, []), (162, .iload_n 3, 1, 0, []), (163, .invokevirtual 508, 3, 0, []), (166, .goto 21, 3, 0, []), (169, .iload 4, 2, 0, []), (171, .iconst 2, 1, 0, []), (172, .if_icmp .ne 10, 3, 0, []), (175, .aload_n 0, 1, 0, []), (176, .invokevirtual 514, 3, 0, []), (179, .goto 8, 3, 0, []), (182, .aload_n 0, 1, 0, []), (183, .iload_n 2, 1, 0, []), (184, .invokevirtual 519, 3, 0, []), (187, .istore 5, 2, 0, []), (189, .iload 5, 2, 0, []), (191, .ifCond .ge 6, 3, 0, []), (194, .bipush (-3), 2, 0, []), (196, .ireturn, 1, 0, []), (197, .aload_n 0, 1, 0, []), (198, .iload 4, 2, 0, []), (200, .iconst 2, 1, 0, []), (201, .if_icmp .ne 8, 3, 0, []), (204, .iload 5, 2, 0, []), (206, .goto 7, 3, 0, []), (209, .aload_n 0, 1, 0, []), (210, .getfield 543, 3, 0, []), (213, .putfield 543, 3, 0, []), (216, .aload_n 0, 1, 0, []), (217, .dup, 1, 0, []), (218, .getfield 540, 3, 0, []), (221, .iconst 1, 1, 0, []), (222, .iadd, 1, 0, []), (223, .putfield 540, 3, 0, []), (226, .iconst 0, 1, 0, []), (227, .ireturn, 1, 0, [])]
theorem zd_X12_runOne : ∀ q ∈ zc_X12_runOne, decode prog_14_method_111_code q.1 = .ok (q.2.1, q.2.2.1) := by decide +kernel
def zc_X12_sumOf : List (Nat × ClassFile.Instr × Nat × Nat × List (Nat × Int × Nat)) := [(0, .aload_n 0, 1, 0, []), (1, .getfield 537, 3, 0, []), (4, .ifCond .ne 20, 3, 0, []), (7, .aload_n 0, 1, 0, []), (8, .getfield 149, 3, 0, []), (11, .iload_n 1, 1, 0, []), (12, .iaload, 1, 0, []), (13, .aload_n 0, 1, 0, []), (14, .getfield 149, 3, 0, []), (17, .iload_n 1, 1, 0, []), (18, .iconst 1, 1, 0, []), (19, .iadd, 1, 0, []), (20, .iaload, 1, 0, []), (21, .if_icmp .ne 5, 3, 0, []), (24, .iconst (-1), 1, 0, []), (25, .ireturn, 1, 0, []), (26, .aload_n 0, 1, 0, []), (27, .iconst 1, 1, 0, []), (28, .putfield 319, 3, 0, []), (31, .aload_n 0, 1, 0, []), (32, .aload_n 0, 1, 0, []), (33, .getfield 149, 3, 0, []), (36, .iload_n 1, 1, 0, []), (37, .iaload, 1, 0, []), (38, .aload_n 0, 1, 0, []), (39, .getfield 149, 3, 0, []), (42, .iload_n 1, 1, 0, []), (43, .iconst 1, 1, 0, []), (44, .iadd, 1, 0, []), (45, .iaload, 1, 0, []), (46, .invokevirtual 405, 3, 0, []), (49, .aload_n 0, 1, 0, []), (50, .iconst 0, 1, 0, []), (51, .putfield 319, 3, 0, []), (54, .aload_n 0, 1, 0, []), (55, .aload_n 0, 1, 0, []), (56, .getfield 388, 3, 0, []), (59, .putfield 537, 3, 0, []), (62, .aload_n 0, 1, 0, []), (63, .getfield 402, 3, 0, []), (66, .l2i, 1, 0, []), (67, .ireturn, 1, 0, [])]
theorem zd_X12_sumOf : ∀ q ∈ zc_X12_sumOf, decode prog_14_method_110_code q.1 = .ok (q.2.1, q.2.2.1) := by decide +kernel
def zc_X12_giveBack : List (Nat × ClassFile.Instr × Nat × Nat × List (Nat × Int × Nat)) := [(0, .aload_n 0, 1, 0, []), (1, .bipush 17, 2, 0, []), (3, .invokevirtual 178, 3, 0, []), (6, .iconst 0, 1, 0, []), (7, .istore_n 2, 1, 0, []), (8, .iload_n 2, 1, 0, []), (9, .sipush 544, 3, 0, []), (12, .if_icmp .ge 21, 3, 0, []), (15, .aload_n 0, 1, 0, []), (16, .getfield 23, 3, 0, []), (19, .iload_n 2, 1, 0, []), (20, .aload_n 0, 1, 0, []), (21, .getfield 29, 3, 0, []), (24, .iload_n 2, 1, 0, []), (25, .iaload, 1, 0, []), (26, .iastore, 1, 0, []), (27, .iinc 2 1, 3, 0, []), (30, .goto (-22), 3, 0, []), (33, .iconst 0, 1, 0, []), (34, .istore_n 2, 1, 0, []), (35, .iload_n 2, 1, 0, []), (36, .bipush 16, 2, 0, []), (38, .if_icmp .ge 21, 3, 0, []), (41, .aload_n 0, 1, 0, []), (42, .getfield 26, 3, 0, []), (45, .iload_n 2, 1, 0, []), (46, .aload_n 0, 1, 0, []), (47, .getfield 32, 3, 0, []), (50, .iload_n 2, 1, 0, []), (51, .iaload, 1, 0, []), (52, .iastore, 1, 0, []), (53, .iinc 2 1, 3, 0, []), (56, .goto (-21), 3, 0, []), (59, .aload_n 0, 1, 0, []), (60, .iload_n 1, 1, 0, []), (61, .putfield 167, 3, 0, []), (64, .return_, 1, 0, [])]
theorem zd_X12_giveBack : ∀ q ∈ zc_X12_giveBack, decode prog_14_method_113_code q.1 = .ok (q.2.1, q.2.2.1) := by decide +kernel
def zc_X12_stopped : List (Nat × ClassFile.Instr × Nat × Nat × List (Nat × Int × Nat)) := [(0, .aload_n 0, 1, 0, []), (1, .iconst 0, 1, 0, []), (2, .putfield 161, 3, 0, []), (5, .aload_n 0, 1, 0, []), (6, .getfield 152, 3, 0, []), (9, .ireturn, 1, 0, [])]
theorem zd_X12_stopped : ∀ q ∈ zc_X12_stopped, decode prog_14_method_114_code q.1 = .ok (q.2.1, q.2.2.1) := by decide +kernel
def zc_X12_decade : List (Nat × ClassFile.Instr × Nat × Nat × List (Nat × Int × Nat)) := [(0, .aload_n 0, 1, 0, []), (1, .iconst 0, 1, 0, []), (2, .putfield 161, 3, 0, []), (5, .iload_n 1, 1, 0, []), (6, .i2l, 1, 0, []), (7, .lconst 0, 1, 0, []), (8, .ldc2_w 269, 3, 0, []), (11, .invokestatic 181, 3, 0, []), (14, .ifCond .eq 15, 3, 0, []), (17, .iload_n 2, 1, 0, []), (18, .i2l, 1, 0, []), (19, .lconst 1, 1, 0, []), (20, .ldc2_w 421, 3, 0, []), (23, .invokestatic 181, 3, 0, []), (26, .ifCond .ne 9, 3, 0, []), (29, .aload_n 0, 1, 0, []), (30, .iconst (-1), 1, 0, []), (31, .invokevirtual 170, 3, 0, []), (34, .ireturn, 1, 0, []), (35, .aload_n 0, 1, 0, []), (36, .bipush 16, 2, 0, []), (38, .invokevirtual 174, 3, 0, []), (41, .aload_n 0, 1, 0, []), (42, .iload_n 1, 1, 0, []), (43, .i2l, 1, 0, []), (44, .putfield 558, 3, 0, []), (47, .iconst 0, 1, 0, []), (48, .istore_n 3, 1, 0, []), (49, .iconst 0, 1, 0, []), (50, .istore 4, 2, 0, []), (52, .iconst 0, 1, 0, []), (53, .istore 5, 2, 0, []), (55, .iload 5, 2, 0, []), (57, .iload_n 2, 1, 0, []), (58, .if_icmp .ge 78, 3, 0, []), (61, .aload_n 0, 1, 0, []), (62, .invokevirtual 411, 3, 0, []), (65, .sipush 999, 3, 0, []), (68, .if_icmp .ge 68, 3, 0, []), (71, .aload_n 0, 1, 0, []), (72, .getfield 13, 3, 0, []), (75, .bipush 10, 2, 0, []), (77, .iaload, 1, 0, []), (78, .iconst (-1), 1, 0, []), (79, .if_icmp .ne 17, 3, 0, []), (82, .aload_n 0, 1, 0, []), (83, .getfield 13, 3, 0, []), (86, .bipush 9, 2, 0, []), (88, .iaload, 1, 0, []), (89, .ifCond .ne 7, 3, 0, []), (92, .aload_n 0, 1, 0, []), (93, .invokevirtual 570, 3, 0, []), (96, .aload_n 0, 1, 0, []), (97, .getfield 13, 3, 0, []), (100, .bipush 10, 2, 0, []), (102, .iaload, 1, 0, []), (103, .iconst (-1), 1, 0, []), (104, .if_icmp .ne 16, 3, 0, []), (107, .aload_n 0, 1, 0, []), (108, .getfield 13, 3, 0, []), (111, .iconst 5, 1, 0, []), (112, .dup2, 1, 0, []), (113, .iaload, 1, 0, []), (114, .iconst 1, 1, 0, []), (115, .iadd, 1, 0, []), (116, .iastore, 1, 0, []), (117, .goto 13, 3, 0, []), (120, .iload_n 3, 1, 0, []), (121, .aload_n 0, 1, 0, []), (122, .invokevirtual 511, 3, 0, []), (125, .iadd, 1, 0, []), (126, .istore_n 3, 1, 0, []), (127, .iinc 4 1, 3, 0, []), (130, .iinc 5 1, 3, 0, []), (133, .goto (-78), 3, 0, []), (136, .aload_n 0, 1, 0, []), (137, .aload_n 0, 1, 0, []), (138, .getfield 13, 3, 0, []), (141, .iconst 1, 1, 0, []), (142, .iaload, 1, 0, []), (143, .putfield 158, 3, 0, []), (146, .aload_n 0, 1, 0, []), (147, .getfield 155, 3, 0, []), (150, .iconst 0, 1, 0, []), (151, .aload_n 0, 1, 0, []), (152, .getfield 13, 3, 0, []), (155, .bipush 8, 2, 0, []), (157, .iaload, 1, 0, []), (158, .iastore, 1, 0, []), (159, .aload_n 0, 1, 0, []), (160, .getfield 155, 3, 0, []), (163, .iconst 1, 1, 0, []), (164, .aload_n 0, 1, 0, []), (165, .getfield 13, 3, 0, []), (168, .bipush 9, 2, 0, []), (170, .iaload, 1, 0, []), (171, .iastore, 1, 0, []), (172, .aload_n 0, 1, 0, []), (173, .getfield 155, 3, 0, []), (176, .iconst 2, 1, 0, []), (177, .aload_n 0, 1, 0, []), (178, .invokevirtual 411, 3, 0, []), (181, .iastore, 1, 0, []), (182, .aload_n 0, 1, 0, []), (183, .getfield 155, 3, 0, []), (186, .iconst 3, 1, 0, []), (187, .iload 4, 2, 0, []), (189, .iastore, 1, 0, []), (190, .iconst 0, 1, 0, []), (191, .istore 5, 2, 0, []), (193, .iload 5, 2, 0, []), (195, .aload_n 0, 1, 0, []), (196, .getfield 158, 3, 0, []), (199, .if_icmp .ge 28, 3, 0, []), (202, .aload_n 0, 1, 0, []), (203, .getfield 155, 3, 0, []), (206, .iconst 4, 1, 0, []), (207, .iload 5, 2, 0, []), (209, .iadd, 1, 0, []), (210, .aload_n 0, 1, 0, []), (211, .getfield 13, 3, 0, []), (214, .bipush 29, 2, 0, []), (216, .iload 5, 2, 0, []), (218, .iadd, 1, 0, []), (219, .iaload, 1, 0, []), (220, .iastore, 1, 0, []), (221, .iinc 5 1, 3, 0, []), (224, .goto (-31), 3, 0, []), (227, .aload_n 0, 1, 0, []), (228, .bipush 16, 2, 0, []), (230, .invokevirtual 178, 3, 0, []), (233, .aload_n 0, 1, 0, []), (234, .iload_n 3, 1, 0, []), (235, .invokevirtual 170, 3, 0, []), (238, .ireturn, 1, 0, [])]
theorem zd_X12_decade : ∀ q ∈ zc_X12_decade, decode prog_14_method_117_code q.1 = .ok (q.2.1, q.2.2.1) := by decide +kernel
def zc_X12_drawMorning : List (Nat × ClassFile.Instr × Nat × Nat × List (Nat × Int × Nat)) := [(0, .aload_n 0, 1, 0, []), (1, .bipush 13, 2, 0, []), (3, .invokevirtual 567, 3, 0, []), (6, .istore_n 1, 1, 0, []), (7, .aload_n 0, 1, 0, []), (8, .invokevirtual 411, 3, 0, []), (11, .bipush 7, 2, 0, []), (13, .irem, 1, 0, []), (14, .bipush 6, 2, 0, []), (16, .if_icmp .ne 13, 3, 0, []), (19, .aload_n 0, 1, 0, []), (20, .getfield 13, 3, 0, []), (23, .bipush 6, 2, 0, []), (25, .iaload, 1, 0, []), (26, .goto 5, 3, 0, []), (29, .bipush 12, 2, 0, []), (31, .istore_n 2, 1, 0, []), (32, .iload_n 1, 1, 0, []), (33, .iload_n 2, 1, 0, []), (34, .if_icmp .ge 7, 3, 0, []), (37, .iload_n 1, 1, 0, []), (38, .goto 4, 3, 0, []), (41, .iload_n 2, 1, 0, []), (42, .istore_n 1, 1, 0, []), (43, .aload_n 0, 1, 0, []), (44, .bipush 100, 2, 0, []), (46, .invokevirtual 567, 3, 0, []), (49, .aload_n 0, 1, 0, []), (50, .iload_n 1, 1, 0, []), (51, .invokevirtual 436, 3, 0, []), (54, .if_icmp .ge 14, 3, 0, []), (57, .aload_n 0, 1, 0, []), (58, .getfield 13, 3, 0, []), (61, .bipush 9, 2, 0, []), (63, .iconst 1, 1, 0, []), (64, .iastore, 1, 0, []), (65, .goto 9, 3, 0, []), (68, .aload_n 0, 1, 0, []), (69, .iload_n 1, 1, 0, []), (70, .invokevirtual 499, 3, 0, []), (73, .pop, 1, 0, []), (74, .return_, 1, 0, [])]
theorem zd_X12_drawMorning : ∀ q ∈ zc_X12_drawMorning, decode prog_14_method_116_code q.1 = .ok (q.2.1, q.2.2.1) := by decide +kernel
def zc_X12_draw : List (Nat × ClassFile.Instr × Nat × Nat × List (Nat × Int × Nat)) := [(0, .aload_n 0, 1, 0, []), (1, .aload_n 0, 1, 0, []), (2, .getfield 558, 3, 0, []), (5, .ldc2_w 561, 3, 0, []), (8, .lmul, 1, 0, []), (9, .ldc2_w 563, 3, 0, []), (12, .ladd, 1, 0, []), (13, .ldc2_w 565, 3, 0, []), (16, .lrem, 1, 0, []), (17, .putfield 558, 3, 0, []), (20, .aload_n 0, 1, 0, []), (21, .getfield 558, 3, 0, []), (24, .iload_n 1, 1, 0, []), (25, .i2l, 1, 0, []), (26, .lrem, 1, 0, []), (27, .l2i, 1, 0, []), (28, .ireturn, 1, 0, [])]
theorem zd_X12_draw : ∀ q ∈ zc_X12_draw, decode prog_14_method_115_code q.1 = .ok (q.2.1, q.2.2.1) := by decide +kernel
def zc_X12_drawn : List (Nat × ClassFile.Instr × Nat × Nat × List (Nat × Int × Nat)) := [(0, .aload_n 0, 1, 0, []), (1, .iconst 0, 1, 0, []), (2, .putfield 161, 3, 0, []), (5, .aload_n 0, 1, 0, []), (6, .getfield 158, 3, 0, []), (9, .iconst (-1), 1, 0, []), (10, .if_icmp .eq 30, 3, 0, []), (13, .iload_n 1, 1, 0, []), (14, .i2l, 1, 0, []), (15, .lconst 0, 1, 0, []), (16, .ldc2_w 205, 3, 0, []), (19, .aload_n 0, 1, 0, []), (20, .getfield 158, 3, 0, []), (23, .i2l, 1, 0, []), (24, .ladd, 1, 0, []), (25, .invokestatic 181, 3, 0, []), (28, .ifCond .eq 12, 3, 0, []), (31, .aload_n 0, 1, 0, []), (32, .getfield 155, 3, 0, []), (35, .iload_n 1, 1, 0, []), (36, .iaload, 1, 0, []), (37, .goto 4, 3, 0, []), (40, .iconst (-1), 1, 0, []), (41, .ireturn, 1, 0, [])]
theorem zd_X12_drawn : ∀ q ∈ zc_X12_drawn, decode prog_14_method_118_code q.1 = .ok (q.2.1, q.2.2.1) := by decide +kernel
def zc_X12_count : List (Nat × ClassFile.Instr × Nat × Nat × List (Nat × Int × Nat)) := [(0, .aload_n 0, 1, 0, []), (1, .iconst 0, 1, 0, []), (2, .putfield 161, 3, 0, []), (5, .iload_n 1, 1, 0, []), (6, .tableswitch 179 0 14 #[74, 81, 88, 95, 102, 107, 112, 119, 126, 133, 140, 148, 155, 163, 171], 74, 0, []), (80, .aload_n 0, 1, 0, []), (81, .getfield 13, 3, 0, []), (84, .iconst 0, 1, 0, []), (85, .iaload, 1, 0, []), (86, .ireturn, 1, 0, []), (87, .aload_n 0, 1, 0, []), (88, .getfield 13, 3, 0, []), (91, .iconst 1, 1, 0, []), (92, .iaload, 1, 0, []), (93, .ireturn, 1, 0, []), (94, .aload_n 0, 1, 0, []), (95, .getfield 13, 3, 0, []), (98, .iconst 2, 1, 0, []), (99, .iaload, 1, 0, []), (100, .ireturn, 1, 0, []), (101, .aload_n 0, 1, 0, []), (102, .getfield 13, 3, 0, []), (105, .iconst 3, 1, 0, []), (106, .iaload, 1, 0, []), (107, .ireturn, 1, 0, []), (108, .aload_n 0, 1, 0, []), (109, .getfield 167, 3, 0, []), (112, .ireturn, 1, 0, []), (113, .aload_n 0, 1, 0, []), (114, .getfield 228, 3, 0, []), (117, .ireturn, 1, 0, []), (118, .aload_n 0, 1, 0, []), (119, .getfield 7, 3, 0, []), (122, .iconst 1, 1, 0, []), (123, .iaload, 1, 0, []), (124, .ireturn, 1, 0, []), (125, .aload_n 0, 1, 0, []), (126, .getfield 7, 3, 0, []), (129, .iconst 2, 1, 0, []), (130, .iaload, 1, 0, []), (131, .ireturn, 1, 0, []), (132, .aload_n 0, 1, 0, []), (133, .getfield 7, 3, 0, []), (136, .iconst 3, 1, 0, []), (137, .iaload, 1, 0, []), (138, .ireturn, 1, 0, []), (139, .aload_n 0, 1, 0, []), (140, .getfield 7, 3, 0, []), (143, .iconst 5, 1, 0, []), (144, .iaload, 1, 0, []), (145, .ireturn, 1, 0, []), (146, .aload_n 0, 1, 0, []), (147, .getfield 7, 3, 0, []), (150, .bipush 6, 2, 0, []), (152, .iaload, 1, 0, []), (153, .ireturn, 1, 0, []), (154, .aload_n 0, 1, 0, []), (155, .getfield 13, 3, 0, []), (158, .iconst 4, 1, 0, []), (159, .iaload, 1, 0, []), (160, .ireturn, 1, 0, []), (161, .aload_n 0, 1, 0, []), (162, .getfield 13, 3, 0, []), (165, .bipush 8, 2, 0, []), (167, .iaload, 1, 0, []), (168, .ireturn, 1, 0, []), (169, .aload_n 0, 1, 0, []), (170, .getfield 13, 3, 0, []), (173, .bipush 9, 2, 0, []), (175, .iaload, 1, 0, []), (176, .ireturn, 1, 0, []), (177, .aload_n 0, 1, 0, []), (178, .getfield 13, 3, 0, []), (181, .bipush 10, 2, 0, []), (183, .iaload, 1, 0, []), (184, .ireturn, 1, 0, []), (185, .iload_n 1, 1, 0, []), (186, .i2l, 1, 0, []), (187, .ldc2_w 573, 3, 0, []), (190, .ldc2_w 575, 3, 0, []), (193, .invokestatic 181, 3, 0, []), (196, .ifCond .eq 17, 3, 0, []), (199, .aload_n 0, 1, 0, []), (200, .getfield 13, 3, 0, []), (203, .iconst 5, 1, 0, []), (204, .iload_n 1, 1, 0, []), (205, .iadd, 1, 0, []), (206, .bipush 15, 2, 0, []), (208, .isub, 1, 0, []), (209, .iaload, 1, 0, []), (210, .goto 4, 3, 0, []), (213, .iconst (-1), 1, 0, []), (214, .ireturn, 1, 0, [])]
theorem zd_X12_count : ∀ q ∈ zc_X12_count, decode prog_14_method_119_code q.1 = .ok (q.2.1, q.2.2.1) := by decide +kernel
def zc_X12_status : List (Nat × ClassFile.Instr × Nat × Nat × List (Nat × Int × Nat)) := [(0, .aload_n 0, 1, 0, []), (1, .iconst 0, 1, 0, []), (2, .putfield 161, 3, 0, []), (5, .aload_n 0, 1, 0, []), (6, .getfield 164, 3, 0, []), (9, .ireturn, 1, 0, [])]
theorem zd_X12_status : ∀ q ∈ zc_X12_status, decode prog_14_method_120_code q.1 = .ok (q.2.1, q.2.2.1) := by decide +kernel
end
section
/-! a checker of methods over a heap of typed cells; part 1: lists side by side, numbers, kinds -/
abbrev zk_F : Type := Nat × Nat × Int × Int
abbrev zk_S : Type := Nat × Int
abbrev zk_T : Type := Nat × Nat × Nat × List zk_F
def zk_all2 {α β : Type} (R : α → β → Prop) : List α → List β → Prop
  | [], [] => True
  | a :: as, b :: bs => R a b ∧ zk_all2 R as bs
  | [], _ :: _ => False
  | _ :: _, [] => False
theorem zk_all2_get {α β : Type} {R : α → β → Prop} : ∀ {as : List α} {bs : List β}, zk_all2 R as bs → ∀ {i : Nat} {a : α}, as[i]? = some a → ∃ b, bs[i]? = some b ∧ R a b
  | [], [], _, i, a, h => by simp at h
  | x :: xs, y :: ys, h, 0, a, e => by
    simp at e
    subst e
    exact ⟨y, by simp, h.1⟩
  | x :: xs, y :: ys, h, i + 1, a, e => by
    simp at e
    obtain ⟨b, h1, h2⟩ := zk_all2_get h.2 e
    exact ⟨b, by simpa using h1, h2⟩
  | [], _ :: _, h, _, _, _ => h.elim
  | _ :: _, [], h, _, _, _ => h.elim
theorem zk_all2_getR {α β : Type} {R : α → β → Prop} : ∀ {as : List α} {bs : List β}, zk_all2 R as bs → ∀ {i : Nat} {b : β}, bs[i]? = some b → ∃ a, as[i]? = some a ∧ R a b
  | [], [], _, i, a, h => by simp at h
  | x :: xs, y :: ys, h, 0, a, e => by
    simp at e
    subst e
    exact ⟨x, by simp, h.1⟩
  | x :: xs, y :: ys, h, i + 1, a, e => by
    simp at e
    obtain ⟨b, h1, h2⟩ := zk_all2_getR h.2 e
    exact ⟨b, by simpa using h1, h2⟩
  | [], _ :: _, h, _, _, _ => h.elim
  | _ :: _, [], h, _, _, _ => h.elim
theorem zk_all2_len {α β : Type} {R : α → β → Prop} : ∀ {as : List α} {bs : List β}, zk_all2 R as bs → as.length = bs.length
  | [], [], _ => rfl
  | _ :: xs, _ :: ys, h => by simp [zk_all2_len h.2]
  | [], _ :: _, h => h.elim
  | _ :: _, [], h => h.elim
theorem zk_all2_imp {α β : Type} {R R' : α → β → Prop} (hR : ∀ a b, R a b → R' a b) : ∀ {as : List α} {bs : List β}, zk_all2 R as bs → zk_all2 R' as bs
  | [], [], _ => trivial
  | _ :: _, _ :: _, h => ⟨hR _ _ h.1, zk_all2_imp hR h.2⟩
  | [], _ :: _, h => h.elim
  | _ :: _, [], h => h.elim
theorem zk_all2_snoc {α β : Type} {R : α → β → Prop} {a : α} {b : β} (hab : R a b) : ∀ {as : List α} {bs : List β}, zk_all2 R as bs → zk_all2 R (as ++ [a]) (bs ++ [b])
  | [], [], _ => ⟨hab, trivial⟩
  | _ :: _, _ :: _, h => ⟨h.1, zk_all2_snoc hab h.2⟩
  | [], _ :: _, h => h.elim
  | _ :: _, [], h => h.elim
theorem zk_all2_setL {α β : Type} {R : α → β → Prop} {a' : α} : ∀ {as : List α} {bs : List β} {i : Nat}, zk_all2 R as bs → (∀ b, bs[i]? = some b → R a' b) → zk_all2 R (as.set i a') bs
  | [], [], _, _, _ => trivial
  | _ :: _, y :: _, 0, h, hb => ⟨hb y (by simp), h.2⟩
  | _ :: _, _ :: _, i + 1, h, hb => ⟨h.1, zk_all2_setL h.2 (fun b e => hb b (by simpa using e))⟩
  | [], _ :: _, _, h, _ => h.elim
  | _ :: _, [], _, h, _ => h.elim
theorem zk_all2_setR {α β : Type} {R : α → β → Prop} {b' : β} : ∀ {as : List α} {bs : List β} {i : Nat}, zk_all2 R as bs → (∀ a, as[i]? = some a → R a b') → zk_all2 R as (bs.set i b')
  | [], [], _, _, _ => trivial
  | x :: _, _ :: _, 0, h, hb => ⟨hb x (by simp), h.2⟩
  | _ :: _, _ :: _, i + 1, h, hb => ⟨h.1, zk_all2_setR h.2 (fun b e => hb b (by simpa using e))⟩
  | [], _ :: _, _, h, _ => h.elim
  | _ :: _, [], _, h, _ => h.elim
theorem zk_all2_set2 {α β : Type} {R : α → β → Prop} {a' : α} {b' : β} (hab : R a' b') : ∀ {as : List α} {bs : List β} {i : Nat}, zk_all2 R as bs → zk_all2 R (as.set i a') (bs.set i b')
  | [], [], _, _ => trivial
  | _ :: _, _ :: _, 0, h => ⟨hab, h.2⟩
  | _ :: _, _ :: _, i + 1, h => ⟨h.1, zk_all2_set2 hab h.2⟩
  | [], _ :: _, _, h => h.elim
  | _ :: _, [], _, h => h.elim
theorem zk_all2_filter {α β : Type} {R : α → β → Prop} {p : α → Bool} {p' : β → Bool} (hp : ∀ a b, R a b → p a = p' b) : ∀ {as : List α} {bs : List β}, zk_all2 R as bs → zk_all2 R (as.filter p) (bs.filter p')
  | [], [], _ => trivial
  | x :: xs, y :: ys, h => by
    have e := hp x y h.1
    have ih := zk_all2_filter hp h.2
    simp only [List.filter_cons]
    rw [← e]
    cases p x
    · simpa using ih
    · exact ⟨h.1, ih⟩
  | [], _ :: _, h => h.elim
  | _ :: _, [], h => h.elim
theorem zk_all2_map {α β γ : Type} {R : α → β → Prop} {f : γ → α} : ∀ {as : List γ} {bs : List β}, zk_all2 (fun x b => R (f x) b) as bs → zk_all2 R (as.map f) bs
  | [], [], _ => trivial
  | _ :: _, _ :: _, h => ⟨h.1, zk_all2_map h.2⟩
  | [], _ :: _, h => h.elim
  | _ :: _, [], h => h.elim
theorem zk_all2_rev {α β : Type} {R : α → β → Prop} : ∀ {as : List α} {bs : List β}, zk_all2 R as bs → zk_all2 R as.reverse bs.reverse
  | [], [], _ => trivial
  | _ :: _, _ :: _, h => by
    simp only [List.reverse_cons]
    exact zk_all2_snoc h.1 (zk_all2_rev h.2)
  | [], _ :: _, h => h.elim
  | _ :: _, [], h => h.elim
theorem zk_all2_app {α β : Type} {R : α → β → Prop} : ∀ {as as' : List α} {bs bs' : List β}, zk_all2 R as bs → zk_all2 R as' bs' → zk_all2 R (as ++ as') (bs ++ bs')
  | [], _, [], _, _, h' => h'
  | _ :: _, _, _ :: _, _, h, h' => ⟨h.1, zk_all2_app h.2 h'⟩
  | [], _, _ :: _, _, h, _ => h.elim
  | _ :: _, _, [], _, h, _ => h.elim
/-- a stack that begins with a list of given length: what stands behind -/
theorem zk_all2_split {α β : Type} {R : α → β → Prop} : ∀ {as as' : List α} {bs : List β}, zk_all2 R (as ++ as') bs → ∃ b1 b2, bs = b1 ++ b2 ∧ zk_all2 R as b1 ∧ zk_all2 R as' b2
  | [], _, bs, h => ⟨[], bs, rfl, trivial, h⟩
  | _ :: xs, _, y :: ys, h => by
    obtain ⟨b1, b2, e, h1, h2⟩ := zk_all2_split (as := xs) h.2
    exact ⟨y :: b1, b2, by rw [e]; rfl, ⟨h.1, h1⟩, h2⟩
  | _ :: _, _, [], h => h.elim

def zk_mk (k : Nat) (n : Int) : Value := match k with
  | 0 => .int (Int32.ofInt n)
  | 1 => .long (Int64.ofInt n)
  | _ => if n < 0 then .null else .ref n.toNat
def zk_rg (k : Nat) (n : Int) : Prop := match k with
  | 0 => -2147483648 ≤ n ∧ n ≤ 2147483647
  | 1 => -9223372036854775808 ≤ n ∧ n ≤ 9223372036854775807
  | _ => True
/-- what a number of a kind may be: least and most; a reference (-1: null) to a cell of the type; a new object -/
def zk_ok (P : Nat → Option Nat) (f : zk_F) (n : Int) : Prop := match f.1 with
  | 0 => f.2.2.1 ≤ n ∧ n ≤ f.2.2.2 ∧ zk_rg 0 n
  | 1 => f.2.2.1 ≤ n ∧ n ≤ f.2.2.2 ∧ zk_rg 1 n
  | 2 => f.2.2.1 ≤ n ∧ -1 ≤ n ∧ (f.2.2.2 < 0 → n < 0) ∧ (0 ≤ n → P n.toNat = some f.2.1)
  | _ => 0 ≤ n
theorem zk_ok.rg {P : Nat → Option Nat} {f : zk_F} {n : Int} (h : zk_ok P f n) : zk_rg f.1 n := by
  obtain ⟨k, t, lo, hi⟩ := f
  match k, h with
  | 0, h => exact h.2.2
  | 1, h => exact h.2.2
  | 2, _ => trivial
  | k + 3, _ => trivial
theorem zk_ok.ext {P P' : Nat → Option Nat} {f : zk_F} {n : Int} (hP : ∀ a t, P a = some t → P' a = some t) (h : zk_ok P f n) : zk_ok P' f n := by
  obtain ⟨k, t, lo, hi⟩ := f
  match k, h with
  | 0, h => exact h
  | 1, h => exact h
  | 2, h => exact ⟨h.1, h.2.1, h.2.2.1, fun q => hP _ _ (h.2.2.2 q)⟩
  | k + 3, h => exact h
theorem zk_ok.iv {P : Nat → Option Nat} {f : zk_F} {n : Int} (h : zk_ok P f n) (hk : f.1 < 2) : f.2.2.1 ≤ n ∧ n ≤ f.2.2.2 := by
  obtain ⟨k, t, lo, hi⟩ := f
  match k, h with
  | 0, h => exact ⟨h.1, h.2.1⟩
  | 1, h => exact ⟨h.1, h.2.1⟩
  | k + 2, _ => exact absurd hk (by show ¬ k + 2 < 2; omega)
def zk_sv (V : List zk_F) (N : List Int) (q : zk_S) (v : Value) : Prop :=
  ∃ f n, V[q.1]? = some f ∧ N[q.1]? = some n ∧ zk_rg f.1 (n + q.2) ∧ v = zk_mk f.1 (n + q.2)
theorem zk_get_snoc {α : Type} {l : List α} {i : Nat} {a x : α} (h : l[i]? = some a) : (l ++ [x])[i]? = some a := by
  rw [List.getElem?_append_left (List.getElem?_eq_some_iff.mp h).1]
  exact h
theorem zk_get_last {α : Type} {l : List α} {x : α} : (l ++ [x])[l.length]? = some x := by simp
/-- more variables, narrower ones -/
def zk_le (V : List zk_F) (N : List Int) (V' : List zk_F) (N' : List Int) : Prop :=
  (∀ (i : Nat) (n : Int), N[i]? = some n → N'[i]? = some n) ∧ ∀ (q : zk_S) (v : Value), zk_sv V N q v → zk_sv V' N' q v
theorem zk_le.rf {V : List zk_F} {N : List Int} : zk_le V N V N := ⟨fun _ _ h => h, fun _ _ h => h⟩
theorem zk_le.trans {V V' V'' : List zk_F} {N N' N'' : List Int} (h : zk_le V N V' N') (h' : zk_le V' N' V'' N'') : zk_le V N V'' N'' :=
  ⟨fun i n q => h'.1 i n (h.1 i n q), fun q v z => h'.2 q v (h.2 q v z)⟩
theorem zk_le.snoc {V : List zk_F} {N : List Int} (f : zk_F) (n : Int) : zk_le V N (V ++ [f]) (N ++ [n]) :=
  ⟨fun _ _ h => zk_get_snoc h, fun _ _ ⟨g, k, h1, h2, h3⟩ => ⟨g, k, zk_get_snoc h1, zk_get_snoc h2, h3⟩⟩
theorem zk_le.set {V : List zk_F} {N : List Int} {x : Nat} {f f' : zk_F} (hf : V[x]? = some f) (hk : f'.1 = f.1 ∨ (2 ≤ f'.1 ∧ 2 ≤ f.1)) : zk_le V N (V.set x f') N := by
  refine ⟨fun _ _ h => h, fun q v ⟨g, k, h1, h2, h3, h4⟩ => ?_⟩
  by_cases hq : q.1 = x
  · subst hq
    cases hf.symm.trans h1
    have hl : q.1 < V.length := (List.getElem?_eq_some_iff.mp h1).1
    refine ⟨f', k, by simp [hl], h2, ?_⟩
    rcases hk with e | ⟨e1, e2⟩
    · rw [e]; exact ⟨h3, h4⟩
    · obtain ⟨k1, r1⟩ := f'
      obtain ⟨k2, r2⟩ := f
      match k1, k2, e1, e2, h3, h4 with
      | i + 2, j + 2, _, _, h3, h4 => exact ⟨trivial, h4⟩
  · exact ⟨g, k, by rw [List.getElem?_set_ne (Ne.symm hq)]; exact h1, h2, h3, h4⟩
theorem zk_i32 {n : Int} (h : zk_rg 0 n) : (Int32.ofInt n).toInt = n := Int32.toInt_ofInt_of_le (by have := h.1; omega) (by have := h.2; omega)
theorem zk_i64 {n : Int} (h : zk_rg 1 n) : (Int64.ofInt n).toInt = n := Int64.toInt_ofInt_of_le (by have := h.1; omega) (by have := h.2; omega)
theorem zk_to32 (v : Int32) : zk_rg 0 v.toInt ∧ v = Int32.ofInt v.toInt :=
  ⟨⟨by have := Int32.le_toInt v; omega, by have := Int32.toInt_lt v; omega⟩, (Int32.ofInt_toInt v).symm⟩
theorem zk_to64 (v : Int64) : zk_rg 1 v.toInt ∧ v = Int64.ofInt v.toInt :=
  ⟨⟨by have := Int64.le_toInt v; omega, by have := Int64.toInt_lt v; omega⟩, (Int64.ofInt_toInt v).symm⟩
theorem zk_lt32 {a b : Int} (ha : zk_rg 0 a) (hb : zk_rg 0 b) : Int32.ofInt a < Int32.ofInt b ↔ a < b := by rw [Int32.lt_iff_toInt_lt, zk_i32 ha, zk_i32 hb]
theorem zk_le32 {a b : Int} (ha : zk_rg 0 a) (hb : zk_rg 0 b) : Int32.ofInt a ≤ Int32.ofInt b ↔ a ≤ b := by rw [Int32.le_iff_toInt_le, zk_i32 ha, zk_i32 hb]
theorem zk_eq32 {a b : Int} (ha : zk_rg 0 a) (hb : zk_rg 0 b) : Int32.ofInt a = Int32.ofInt b ↔ a = b := by rw [← Int32.toInt_inj, zk_i32 ha, zk_i32 hb]
theorem zk_lt64 {a b : Int} (ha : zk_rg 1 a) (hb : zk_rg 1 b) : Int64.ofInt a < Int64.ofInt b ↔ a < b := by rw [Int64.lt_iff_toInt_lt, zk_i64 ha, zk_i64 hb]
theorem zk_eq64 {a b : Int} (ha : zk_rg 1 a) (hb : zk_rg 1 b) : Int64.ofInt a = Int64.ofInt b ↔ a = b := by rw [← Int64.toInt_inj, zk_i64 ha, zk_i64 hb]
end
section
/-! part 2: a heap of typed cells -/
/-- the world's constants: the heap types; the classes; where their slots lie; the first address that may be written; what a type without a row says of an address; what holds of the state besides (text constants, links of nest mates) -/
abbrev zk_W : Type := List zk_T × List vw_C × va_G × Nat × (Nat → Nat → Prop) × (State → Prop)
def zk_aty (k : Nat) : FieldType := match k with
  | 1 => .int
  | 4 => .boolean
  | 5 => .byte
  | 6 => .char
  | _ => .short
def zk_fv (P : Nat → Option Nat) (f : zk_F) (v : Value) : Prop := ∃ n, zk_ok P f n ∧ v = zk_mk f.1 n
theorem zk_fv.ext {P P' : Nat → Option Nat} {f : zk_F} {v : Value} (hP : ∀ a t, P a = some t → P' a = some t) (h : zk_fv P f v) : zk_fv P' f v := by
  obtain ⟨n, h1, h2⟩ := h
  exact ⟨n, h1.ext hP, h2⟩
def zk_f0 (T : zk_T) : zk_F := T.2.2.2.headD (0, 0, 0, 0)
/-- an array's parts: each kind's number t is where its part ends; the first is no part, if its kind is 9: its t is the length after which the parts begin anew -/
def zk_rgn : List zk_F → Nat → zk_F
  | [], _ => (0, 0, 0, 0)
  | f :: r, j => if j < f.2.1 then f else zk_rgn r j
def zk_fj (T : zk_T) (j : Nat) : zk_F := if (zk_f0 T).1 = 9 then zk_rgn T.2.2.2.tail (j % (zk_f0 T).2.1) else zk_f0 T
/-- the name of the class whose objects the array of references holds -/
def zk_rn (w : zk_W) (T : zk_T) : String := match w.1[(zk_f0 T).2.1]? with
  | some t => (w.2.1.getD t.2.1 ("", fun _ => ("", "", "", false), 0)).1
  | none => ""
/-- what stands in a cell of the type: 0 an object of class p; 1, 4 .. 7 an array of ints, booleans, bytes, chars, shorts; 2 of longs; 3 of references; its length from p to q -/
def zk_el (w : zk_W) (U : State) (P : Nat → Option Nat) (T : zk_T) (e : va_E) : Prop := match T.1 with
  | 0 => ∃ fs, e = .inr (T.2.1, fs) ∧ zk_all2 (zk_fv P) T.2.2.2 fs
  | 2 => ∃ cA n f, e = .inl (cA, n, .inr (.inl f)) ∧ T.2.1 ≤ n ∧ n ≤ T.2.2.1 ∧ ArrOfT U cA .long ∧ ∀ j, j < n → zk_fv P (zk_fj T j) (.long (f j))
  | 3 => ∃ cA n f, e = .inl (cA, n, .inr (.inr (.inr (.inr f)))) ∧ T.2.1 ≤ n ∧ n ≤ T.2.2.1 ∧ ArrOfT U cA (.object (zk_rn w T)) ∧ va_RA U cA (.object (zk_rn w T)) ∧ ∀ j, j < n → zk_fv P (zk_fj T j) (va_rf (f j))
  | k => ∃ cA n f, e = .inl (cA, n, .inl f) ∧ T.2.1 ≤ n ∧ n ≤ T.2.2.1 ∧ ArrOfT U cA (zk_aty k) ∧ ∀ j, j < n → zk_fv P (zk_fj T j) (.int (f j))
theorem zk_el.ext {w : zk_W} {U : State} {P P' : Nat → Option Nat} {T : zk_T} {e : va_E} (hP : ∀ a t, P a = some t → P' a = some t) (h : zk_el w U P T e) : zk_el w U P' T e := by
  unfold zk_el at h ⊢
  split at h
  · obtain ⟨fs, h1, h2⟩ := h
    exact ⟨fs, h1, zk_all2_imp (fun _ _ q => q.ext hP) h2⟩
  · obtain ⟨cA, n, f, h1, h2, h3, h4, h5⟩ := h
    exact ⟨cA, n, f, h1, h2, h3, h4, fun j hj => (h5 j hj).ext hP⟩
  · obtain ⟨cA, n, f, h1, h2, h3, h4, h5, h6⟩ := h
    exact ⟨cA, n, f, h1, h2, h3, h4, h5, fun j hj => (h6 j hj).ext hP⟩
  · obtain ⟨cA, n, f, h1, h2, h3, h4, h5⟩ := h
    exact ⟨cA, n, f, h1, h2, h3, h4, fun j hj => (h5 j hj).ext hP⟩
theorem zk_el.moved {w : zk_W} {u U : State} {P : Nat → Option Nat} {T : zk_T} {e : va_E} (hvm : u.vm.Alike U.vm) (h : zk_el w u P T e) : zk_el w U P T e := by
  unfold zk_el at h ⊢
  split at h
  · exact h
  · obtain ⟨cA, n, f, h1, h2, h3, h4, h5⟩ := h
    exact ⟨cA, n, f, h1, h2, h3, arrOfT_moved hvm h4, h5⟩
  · obtain ⟨cA, n, f, h1, h2, h3, h4, h5, h6⟩ := h
    exact ⟨cA, n, f, h1, h2, h3, arrOfT_moved hvm h4, h5.moved hvm, h6⟩
  · obtain ⟨cA, n, f, h1, h2, h3, h4, h5⟩ := h
    exact ⟨cA, n, f, h1, h2, h3, arrOfT_moved hvm h4, h5⟩
def zk_up {α : Type} (f : Nat → α) (a : Nat) (x : α) : Nat → α := fun q => if q = a then x else f q
theorem zk_up_self {α : Type} {f : Nat → α} {a : Nat} {x : α} : zk_up f a x a = x := by simp [zk_up]
theorem zk_up_ne {α : Type} {f : Nat → α} {a q : Nat} {x : α} (h : q ≠ a) : zk_up f a x q = f q := by simp [zk_up, h]
theorem zk_up_ext {P : Nat → Option Nat} {a t : Nat} (hp : P a = none) : ∀ q s, P q = some s → zk_up P a (some t) q = some s := by
  intro q s hq
  rw [zk_up_ne]
  · exact hq
  · intro e1
    subst e1
    rw [hp] at hq
    cases hq
/-- inequalities within objects: (type, field, array field): the field's number, or its array's length, is at most the other array's length -/
def zk_rel : List (Nat × Nat × Nat) := [(9, 6, 0), (9, 6, 1), (9, 6, 4), (9, 0, 1), (9, 0, 2), (9, 0, 3), (9, 0, 4)]
def zk_sz (P : Nat → Option Nat) (F : Nat → va_E) (v : Value) (n : Int) : Prop := match v with
  | .int c => c.toInt = n
  | .ref b => (∃ t, P b = some t) ∧ ∃ (cA : ClassId) (x : vp_A), F b = .inl (cA, x) ∧ (x.1 : Int) = n ∧ x.1 ≤ 2147483647
  | _ => False
/-- one step of a text's code, by the depth of the stack ahead of it -/
def zk_ops (d : Nat → Nat) (last q : Nat) (op arg : Int) : Prop := 0 ≤ op ∧
  ((op < 20 ∧ op ≤ 12 ∧ d (q + 1) = d q + 1) ∨ (20 ≤ op ∧ op < 28 ∧ 2 ≤ d q ∧ d (q + 1) + 1 = d q) ∨ (op = 28 ∧ 1 ≤ d q ∧ d (q + 1) = d q) ∨
   (28 < op ∧ 1 ≤ d q ∧ d (q + 1) + 1 = d q ∧ (q : Int) < arg ∧ arg ≤ (last : Int) ∧ d arg.toNat = d q))
/-- the code from first to last can be gone through with a stack that never lacks -/
def zk_cr (co ca : Nat → Int) (first last : Nat) : Prop := ∃ d : Nat → Nat, d first = 0 ∧ ∀ q, first ≤ q → q < last → zk_ops d last q (co q) (ca q)
/-- a law's text at a place of the row -/
def zk_law (f : Nat → Int) (b : Nat) : Prop := ∀ c : Nat, c < 12 → (c : Int) < f (b + 1) →
  (f (b + 2 + 8 * c + 5) < f (b + 2 + 8 * c + 6) → zk_cr (fun k => f (b + 98 + 2 * k)) (fun k => f (b + 98 + 2 * k + 1)) (f (b + 2 + 8 * c + 5)).toNat (f (b + 2 + 8 * c + 6)).toNat) ∧
  (f (b + 2 + 8 * c) ≠ 4 → zk_cr (fun k => f (b + 98 + 2 * k)) (fun k => f (b + 98 + 2 * k + 1)) (f (b + 2 + 8 * c + 3)).toNat (f (b + 2 + 8 * c + 4)).toNat)
def zk_laws (f : Nat → Int) (b : Nat) : Prop := ∀ k, k < 6 → zk_law f (b + 180 + 900 * k)
theorem zk_cr.congr {co ca co' ca' : Nat → Int} {first last : Nat} (h1 : ∀ k, co k = co' k) (h2 : ∀ k, ca k = ca' k) (h : zk_cr co ca first last) : zk_cr co' ca' first last := by
  obtain ⟨d, e1, e2⟩ := h
  refine ⟨d, e1, fun q g1 g2 => ?_⟩
  have := e2 q g1 g2
  rw [h1, h2] at this
  exact this
theorem zk_law.congr {f g : Nat → Int} {b b' : Nat} (h : ∀ j, f (b + j) = g (b' + j)) (hl : zk_law f b) : zk_law g b' := by
  intro c hc hn
  have e : ∀ j, g (b' + j) = f (b + j) := fun j => (h j).symm
  have e1 : g (b' + 1) = f (b + 1) := e 1
  have e2 : ∀ i, g (b' + 2 + 8 * c + i) = f (b + 2 + 8 * c + i) := fun i => by
    have := e (2 + 8 * c + i)
    rw [show b' + (2 + 8 * c + i) = b' + 2 + 8 * c + i by omega, show b + (2 + 8 * c + i) = b + 2 + 8 * c + i by omega] at this
    exact this
  have e3 : ∀ k, f (b + 98 + 2 * k) = g (b' + 98 + 2 * k) := fun k => by
    have := h (98 + 2 * k)
    rw [show b' + (98 + 2 * k) = b' + 98 + 2 * k by omega, show b + (98 + 2 * k) = b + 98 + 2 * k by omega] at this
    exact this
  have e4 : ∀ k, f (b + 98 + 2 * k + 1) = g (b' + 98 + 2 * k + 1) := fun k => by
    have := h (98 + 2 * k + 1)
    rw [show b' + (98 + 2 * k + 1) = b' + 98 + 2 * k + 1 by omega, show b + (98 + 2 * k + 1) = b + 98 + 2 * k + 1 by omega] at this
    exact this
  rw [e1] at hn
  obtain ⟨h1, h2⟩ := hl c hc hn
  have e20 : g (b' + 2 + 8 * c) = f (b + 2 + 8 * c) := e2 0
  refine ⟨fun g1 => ?_, fun g1 => ?_⟩
  · rw [e2 5, e2 6] at g1 ⊢
    exact (h1 g1).congr e3 e4
  · rw [e20] at g1
    rw [e2 3, e2 4]
    exact (h2 g1).congr e3 e4
theorem zk_laws.congr {f g : Nat → Int} {b b' : Nat} (h : ∀ j, 180 ≤ j → f (b + j) = g (b' + j)) (hl : zk_laws f b) : zk_laws g b' := fun k hk => (hl k hk).congr (fun j => by
  have := h (180 + 900 * k + j) (by omega)
  rw [show b + (180 + 900 * k + j) = b + 180 + 900 * k + j by omega, show b' + (180 + 900 * k + j) = b' + 180 + 900 * k + j by omega] at this
  exact this)
/-- types of arrays of which more is known: 59 the reference's row, 60 its images -/
def zk_xi (t : Nat) (f : Nat → Int) : Prop := (t = 59 → zk_laws f 0) ∧ (t = 60 → zk_laws f 0 ∧ zk_laws f 5580)
def zk_xa (t : Nat) (x : vp_A) : Prop := match x.2 with
  | .inl f => zk_xi t (fun j => (f j).toInt)
  | _ => True
def zk_spb (t : Nat) (hi : Int) : Bool := (t != 59 && t != 60) || (t == 59 && decide (hi < 180))
theorem zk_xi.zero (t : Nat) : zk_xi t (fun _ => 0) :=
  ⟨fun _ k _ c _ h => absurd h (by show ¬ ((c : Int) < 0); omega), fun _ => ⟨fun k _ c _ h => absurd h (by show ¬ ((c : Int) < 0); omega), fun k _ c _ h => absurd h (by show ¬ ((c : Int) < 0); omega)⟩⟩
theorem zk_xi.put {t : Nat} {f g : Nat → Int} {hi : Int} (h : zk_xi t f) (hs : zk_spb t hi = true) (he : ∀ j : Nat, hi < (j : Int) → f j = g j) : zk_xi t g := by
  unfold zk_spb at hs
  simp only [Bool.or_eq_true, Bool.and_eq_true, bne_iff_ne, beq_iff_eq, decide_eq_true_eq] at hs
  rcases hs with hs | hs
  · exact ⟨fun e => absurd e hs.1, fun e => absurd e hs.2⟩
  · refine ⟨fun e => (h.1 e).congr (fun j hj => ?_), fun e => absurd (hs.1.symm.trans e) (by decide)⟩
    rw [Nat.zero_add]
    exact he j (by omega)
def zk_rl (P : Nat → Option Nat) (F : Nat → va_E) (t : Nat) (e : va_E) : Prop := match e with
  | .inl a => zk_xa t a.2
  | .inr o => ∀ r ∈ zk_rel, r.1 = t → ∃ v1 v2 n1 n2, o.2[r.2.1]? = some v1 ∧ o.2[r.2.2]? = some v2 ∧ zk_sz P F v1 n1 ∧ zk_sz P F v2 n2 ∧ n1 ≤ n2
theorem zk_sz.step {P P' : Nat → Option Nat} {F F' : Nat → va_E} (hP : ∀ b t, P b = some t → ∃ t', P' b = some t') (hF : ∀ b t (cA : ClassId) (x : vp_A), P b = some t → F b = .inl (cA, x) → ∃ (cA' : ClassId) (x' : vp_A), F' b = .inl (cA', x') ∧ x'.1 = x.1) {v : Value} {n : Int} (h : zk_sz P F v n) : zk_sz P' F' v n := by
  unfold zk_sz at h ⊢
  split at h
  · exact h
  · obtain ⟨⟨t, h1⟩, cA, x, h2, h3⟩ := h
    obtain ⟨cA', x', h4, h5⟩ := hF _ t cA x h1 h2
    exact ⟨hP _ t h1, cA', x', h4, by rw [h5]; exact h3⟩
  · exact h.elim
theorem zk_sz.uniq {P : Nat → Option Nat} {F : Nat → va_E} {v : Value} {n m : Int} (h : zk_sz P F v n) (h' : zk_sz P F v m) : n = m := by
  unfold zk_sz at h h'
  split at h
  · exact h.symm.trans h'
  · obtain ⟨-, cA, x, h2, h3, -⟩ := h
    obtain ⟨-, cA', x', h4, h5, -⟩ := h'
    rw [h2] at h4
    cases h4
    exact h3.symm.trans h5
  · exact h.elim
theorem zk_rl.step {P P' : Nat → Option Nat} {F F' : Nat → va_E} (hP : ∀ b t, P b = some t → ∃ t', P' b = some t') (hF : ∀ b t (cA : ClassId) (x : vp_A), P b = some t → F b = .inl (cA, x) → ∃ (cA' : ClassId) (x' : vp_A), F' b = .inl (cA', x') ∧ x'.1 = x.1) {t : Nat} {e : va_E} (h : zk_rl P F t e) : zk_rl P' F' t e := by
  cases e with
  | inl a => exact h
  | inr o =>
    intro r hr ht
    obtain ⟨v1, v2, n1, n2, h1, h2, h3, h4, h5⟩ := h r hr ht
    exact ⟨v1, v2, n1, n2, h1, h2, h3.step hP hF, h4.step hP hF, h5⟩
/-- every typed cell is as its type says; a type without a row (a text constant's) is the business of w's last part, below the base -/
def zk_wt1 (w : zk_W) (U : State) (P : Nat → Option Nat) (F : Nat → va_E) (H : Heap) (a t : Nat) : Prop := match w.1[t]? with
  | some T => zk_el w U P T (F a) ∧ va_at w.2.2.1 w.2.1 (a, F a) H ∧ w.2.2.2.1 ≤ a ∧ zk_rl P F t (F a)
  | none => a < w.2.2.2.1 ∧ w.2.2.2.2.1 t a ∧ zk_rel.all (fun r => r.1 != t) = true
def zk_wt (w : zk_W) (U : State) (P : Nat → Option Nat) (F : Nat → va_E) (H : Heap) : Prop := ∀ a t, P a = some t → zk_wt1 w U P F H a t
theorem zk_wt1.some {w : zk_W} {U : State} {P : Nat → Option Nat} {F : Nat → va_E} {H : Heap} {a t : Nat} {T : zk_T} (hT : w.1[t]? = some T) : zk_wt1 w U P F H a t ↔ (zk_el w U P T (F a) ∧ va_at w.2.2.1 w.2.1 (a, F a) H ∧ w.2.2.2.1 ≤ a ∧ zk_rl P F t (F a)) := by
  unfold zk_wt1
  rw [hT]
theorem zk_wt1.none {w : zk_W} {U : State} {P : Nat → Option Nat} {F : Nat → va_E} {H : Heap} {a t : Nat} (hT : w.1[t]? = none) : zk_wt1 w U P F H a t ↔ (a < w.2.2.2.1 ∧ w.2.2.2.2.1 t a ∧ zk_rel.all (fun r => r.1 != t) = true) := by
  unfold zk_wt1
  rw [hT]
theorem zk_wt1.step {w : zk_W} {U U' : State} {P P' : Nat → Option Nat} {F F' : Nat → va_E} {H H' : Heap} {a t : Nat} (h : zk_wt1 w U P F H a t) (hel : ∀ T, zk_el w U P T (F a) → zk_el w U' P' T (F' a)) (hat : w.2.2.2.1 ≤ a → va_at w.2.2.1 w.2.1 (a, F a) H → va_at w.2.2.1 w.2.1 (a, F' a) H') (hrl : zk_rl P F t (F a) → zk_rl P' F' t (F' a)) : zk_wt1 w U' P' F' H' a t := by
  cases hT : w.1[t]? with
  | some T =>
    obtain ⟨h1, h2, h3, h4⟩ := (zk_wt1.some hT).mp h
    exact (zk_wt1.some hT).mpr ⟨hel T h1, hat h3 h2, h3, hrl h4⟩
  | none => exact (zk_wt1.none hT).mpr ((zk_wt1.none hT).mp h)
theorem zk_wt.moved {w : zk_W} {u U : State} {P : Nat → Option Nat} {F : Nat → va_E} {H : Heap} (hvm : u.vm.Alike U.vm) (h : zk_wt w u P F H) : zk_wt w U P F H :=
  fun a t hp => (h a t hp).step (fun _ q => q.moved hvm) (fun _ q => q) (fun q => q)
theorem zk_wt.lt {w : zk_W} {U : State} {P : Nat → Option Nat} {F : Nat → va_E} {H : Heap} (h : zk_wt w U P F H) (hb : w.2.2.2.1 ≤ H.size) {a t : Nat} (hp : P a = some t) : a < H.size := by
  have h1 := h a t hp
  cases hT : w.1[t]? with
  | some T => exact va_at.lt ((zk_wt1.some hT).mp h1).2.1
  | none => exact Nat.lt_of_lt_of_le ((zk_wt1.none hT).mp h1).1 hb
/-- one cell written anew, of the same type -/
theorem zk_wt.put {w : zk_W} {U : State} {P : Nat → Option Nat} {F : Nat → va_E} {H H1 : Heap} (h : zk_wt w U P F H) {a t : Nat} {T : zk_T} {e : va_E} (hp : P a = some t) (hT : w.1[t]? = some T) (he : zk_el w U P T e) (hat : va_at w.2.2.1 w.2.1 (a, e) H1) (hk : ∀ q, q ≠ a → H1[q]? = H[q]?) (hsm : ∀ (cA : ClassId) (x : vp_A), F a = .inl (cA, x) → ∃ (cA' : ClassId) (x' : vp_A), e = .inl (cA', x') ∧ x'.1 = x.1) (hrl : zk_rl P (zk_up F a e) t e) : zk_wt w U P (zk_up F a e) H1 := by
  intro q s hq
  by_cases e1 : q = a
  · subst e1
    cases hp.symm.trans hq
    refine (zk_wt1.some hT).mpr ?_
    rw [zk_up_self]
    exact ⟨he, hat, ((zk_wt1.some hT).mp (h q t hq)).2.2.1, hrl⟩
  · refine (h q s hq).step (fun T z => ?_) (fun _ z => ?_) (fun z => ?_)
    · rw [zk_up_ne e1]; exact z
    · rw [zk_up_ne e1]; exact va_at.kept z (hk q e1)
    · rw [zk_up_ne e1]
      refine z.step (fun b t hb => ⟨t, hb⟩) (fun b t cA x hb hF => ?_)
      by_cases e2 : b = a
      · subst e2
        obtain ⟨cA', x', y1, y2⟩ := hsm cA x hF
        exact ⟨cA', x', by rw [zk_up_self]; exact y1, y2⟩
      · exact ⟨cA, x, by rw [zk_up_ne e2]; exact hF, rfl⟩
/-- cells beside the typed ones change -/
theorem zk_wt.kept {w : zk_W} {U : State} {P : Nat → Option Nat} {F : Nat → va_E} {H H1 : Heap} (h : zk_wt w U P F H) (hk : ∀ q t, P q = some t → w.2.2.2.1 ≤ q → H1[q]? = H[q]?) : zk_wt w U P F H1 :=
  fun q s hq => (h q s hq).step (fun _ z => z) (fun hb z => va_at.kept z (hk q s hq hb)) (fun z => z)
/-- a cell comes under the types -/
theorem zk_wt.add {w : zk_W} {U : State} {P : Nat → Option Nat} {F : Nat → va_E} {H : Heap} (h : zk_wt w U P F H) {a t : Nat} {T : zk_T} {e : va_E} (hp : P a = none) (hT : w.1[t]? = some T) (he : zk_el w U (zk_up P a (some t)) T e) (hat : va_at w.2.2.1 w.2.1 (a, e) H) (hb : w.2.2.2.1 ≤ a) (hrl : zk_rl (zk_up P a (some t)) (zk_up F a e) t e) : zk_wt w U (zk_up P a (some t)) (zk_up F a e) H := by
  intro q s hq
  by_cases e1 : q = a
  · subst e1
    rw [zk_up_self] at hq
    cases hq
    refine (zk_wt1.some hT).mpr ?_
    rw [zk_up_self]
    exact ⟨he, hat, hb, hrl⟩
  · rw [zk_up_ne e1] at hq
    refine (h q s hq).step (fun T z => ?_) (fun _ z => ?_) (fun z => ?_)
    · rw [zk_up_ne e1]; exact z.ext (zk_up_ext hp)
    · rw [zk_up_ne e1]; exact z
    · rw [zk_up_ne e1]
      refine z.step (fun b t hb => ⟨t, zk_up_ext hp _ _ hb⟩) (fun b t cA x hb2 hF => ⟨cA, x, ?_, rfl⟩)
      rw [zk_up_ne]
      · exact hF
      · intro e2
        subst e2
        rw [hp] at hb2
        cases hb2
/-- what an array holds at a place -/
def zk_av (x : vp_A) (j : Nat) : Option Value := match x.2 with
  | .inl f => some (.int (f j))
  | .inr (.inl f) => some (.long (f j))
  | .inr (.inr (.inr (.inr f))) => some (va_rf (f j))
  | _ => none
/-- what a field, an array's length (place 1000), or an array at j (place 2000 + j) holds -/
def zk_rd (e : va_E) (k : Nat) : Option Value := match e with
  | .inr o => o.2[k]?
  | .inl a => if k = 1000 then some (.int (Int32.ofNat a.2.1)) else if 2000 ≤ k ∧ k - 2000 < a.2.1 then zk_av a.2 (k - 2000) else none
/-- the same cell but for the places that P names -/
def zk_same (P : Nat → Prop) (e e' : va_E) : Prop := match e, e' with
  | .inr o, .inr o' => o.1 = o'.1 ∧ o.2.length = o'.2.length ∧ ∀ k, ¬ P k → o.2[k]? = o'.2[k]?
  | .inl a, .inl a' => a.1 = a'.1 ∧ a.2.1 = a'.2.1 ∧ ∀ j, j < a.2.1 → ¬ P (2000 + j) → zk_av a.2 j = zk_av a'.2 j
  | _, _ => False
theorem zk_same.rf {P : Nat → Prop} {e : va_E} : zk_same P e e := by
  cases e with
  | inl a => exact ⟨rfl, rfl, fun _ _ _ => rfl⟩
  | inr o => exact ⟨rfl, rfl, fun _ _ => rfl⟩
theorem zk_same.trans {P : Nat → Prop} {e e' e'' : va_E} (h : zk_same P e e') (h' : zk_same P e' e'') : zk_same P e e'' := by
  cases e with
  | inl a => cases e' with
    | inl a' => cases e'' with
      | inl a'' => exact ⟨h.1.trans h'.1, h.2.1.trans h'.2.1, fun j hj q => (h.2.2 j hj q).trans (h'.2.2 j (by rw [← h.2.1]; exact hj) q)⟩
      | inr o => exact h'.elim
    | inr o => exact h.elim
  | inr o => cases e' with
    | inl a' => exact h.elim
    | inr o' => cases e'' with
      | inl a'' => exact h'.elim
      | inr o'' => exact ⟨h.1.trans h'.1, h.2.1.trans h'.2.1, fun k q => (h.2.2 k q).trans (h'.2.2 k q)⟩
theorem zk_same.mono {P P' : Nat → Prop} {e e' : va_E} (hP : ∀ k, P k → P' k) (h : zk_same P e e') : zk_same P' e e' := by
  cases e with
  | inl a => cases e' with
    | inl a' => exact ⟨h.1, h.2.1, fun j hj q => h.2.2 j hj (fun z => q (hP _ z))⟩
    | inr o => exact h.elim
  | inr o => cases e' with
    | inl a' => exact h.elim
    | inr o' => exact ⟨h.1, h.2.1, fun k q => h.2.2 k (fun z => q (hP k z))⟩
theorem zk_same.rd {P : Nat → Prop} {e e' : va_E} (h : zk_same P e e') {k : Nat} (hk : ¬ P k) : zk_rd e' k = zk_rd e k := by
  cases e with
  | inl a => cases e' with
    | inl a' =>
      simp only [zk_rd]
      rw [← h.2.1]
      by_cases c1 : k = 1000
      · rw [if_pos c1, if_pos c1]
      · rw [if_neg c1, if_neg c1]
        by_cases c2 : 2000 ≤ k ∧ k - 2000 < a.2.1
        · rw [if_pos c2, if_pos c2]
          refine (h.2.2 _ c2.2 (fun z => hk ?_)).symm
          rw [show 2000 + (k - 2000) = k by omega] at z
          exact z
        · rw [if_neg c2, if_neg c2]
    | inr o => exact h.elim
  | inr o => cases e' with
    | inl a' => exact h.elim
    | inr o' => exact (h.2.2 k hk).symm
/-- the places that a code of what is written stands for: a field; 1001 all of an array; 1002 what lies ahead of 180 -/
def zk_er (e : Nat) : Nat × Nat := if e = 1001 then (2000, 1000000000000) else if e = 1002 then (2000, 2179) else (e, e)
def zk_pm (e k : Nat) : Prop := (zk_er e).1 ≤ k ∧ k ≤ (zk_er e).2
def zk_cov (e e' : Nat) : Bool := e == e' || (e == 1001 && e' == 1002)
theorem zk_cov_ok {e e' k : Nat} (h : zk_cov e e' = true) (hk : zk_pm e' k) : zk_pm e k := by
  unfold zk_cov at h
  simp only [Bool.or_eq_true, Bool.and_eq_true, beq_iff_eq] at h
  rcases h with h | h
  · rw [h]; exact hk
  · rw [h.2] at hk
    rw [h.1]
    have hk : 2000 ≤ k ∧ k ≤ 2179 := hk
    exact ⟨hk.1, Nat.le_trans hk.2 (by decide)⟩
/-- which places of a cell of type t at a may be written: eff's (type, code, 0: any cell of the type; j + 1: the one that parameter j is) -/
def zk_may (eff : List (Nat × Nat × Nat)) (ps : List Int) (a t k : Nat) : Prop := ∃ q ∈ eff, q.1 = t ∧ zk_pm q.2.1 k ∧ (q.2.2 = 0 ∨ ps[q.2.2 - 1]? = some (a : Int))
def zk_ef (eff : List (Nat × Nat × Nat)) (ps : List Int) (P0 : Nat → Option Nat) (F0 F : Nat → va_E) : Prop := ∀ a t, P0 a = some t → zk_same (zk_may eff ps a t) (F0 a) (F a)
end
section
/-! part 3: what is known at a place: variables (kind, type, least, most); differences; fields read; objects not yet made; locals; which variables are the parameters; which are new -/
abbrev zk_C : Type := List zk_F × List (Nat × Nat × Int) × List (Nat × Nat × zk_S) × List (Nat × Nat × List zk_S) × List (Nat × zk_S) × List (Nat × Nat) × List Nat
/-- the method's own constants: the types and contents at its entry, its parameters' numbers, what it may write, the numbers at the block's head, how many locals, which of the older cells it leaves alone though they have no type -/
abbrev zk_M : Type := (Nat → Option Nat) × (Nat → va_E) × List Int × List (Nat × Nat × Nat) × List Int × Nat × (Nat → Prop)
def zk_df (N : List Int) (D : List (Nat × Nat × Int)) : Prop := ∀ q ∈ D, ∃ n k, N[q.1]? = some n ∧ N[q.2.1]? = some k ∧ n ≤ k + q.2.2
def zk_fa1 (V : List zk_F) (N : List Int) (P : Nat → Option Nat) (F : Nat → va_E) (x k : Nat) (q : zk_S) : Prop := ∃ n t v, N[x]? = some n ∧ 0 ≤ n ∧ P n.toNat = some t ∧ zk_rd (F n.toNat) k = some v ∧ zk_sv V N q v
def zk_fa (V : List zk_F) (N : List Int) (P : Nat → Option Nat) (F : Nat → va_E) (A : List (Nat × Nat × zk_S)) : Prop := ∀ q ∈ A, zk_fa1 V N P F q.1 q.2.1 q.2.2
def zk_rw (w : zk_W) (X : Nat → Prop) (V : List zk_F) (N : List Int) (P : Nat → Option Nat) (H : Heap) : List (Nat × Nat × List zk_S) → Nat → Prop
  | [], _ => True
  | q :: r, b => ∃ n : Nat, ∃ fs, N[q.1]? = some (n : Int) ∧ n < b ∧ (w.2.2.2.1 ≤ n ∧ ¬ X n) ∧ P n = none ∧ va_at w.2.2.1 w.2.1 (n, .inr (q.2.1, fs)) H ∧ zk_all2 (zk_sv V N) q.2.2 fs ∧ zk_rw w X V N P H r n
def zk_lr (V : List zk_F) (N : List Int) (q : Nat × zk_S) (r : Nat × Value) : Prop := q.1 = r.1 ∧ zk_sv V N q.2 r.2
def zk_lo (V : List zk_F) (N : List Int) (ls : Array Slot) (nL : Nat) (L : List (Nat × zk_S)) : Prop := ∃ lv, lv_has ls nL lv ∧ zk_all2 (zk_lr V N) L lv
def zk_pa (N : List Int) (ps : List Int) (A : List (Nat × Nat)) : Prop := ∀ q ∈ A, ∃ n, N[q.2]? = some n ∧ ps[q.1]? = some n
def zk_fr (N : List Int) (P0 : Nat → Option Nat) (A : List Nat) : Prop := ∀ x ∈ A, ∃ n, N[x]? = some n ∧ 0 ≤ n ∧ P0 n.toNat = none
def zk_G (w : zk_W) (s : State) (u : zk_M) (κ : zk_C) (N : List Int) (P : Nat → Option Nat) (F : Nat → va_E) (H : Heap) (locs : List Loc) (ls : Array Slot) : Prop :=
  zk_all2 (zk_ok P) κ.1 N ∧ zk_df N κ.2.1 ∧ zk_fa κ.1 N P F κ.2.2.1 ∧ zk_rw w (fun n => n < s.heap.size ∧ u.2.2.2.2.2.2 n) κ.1 N P H κ.2.2.2.1 H.size ∧ zk_wt w s P F H ∧ zk_lo κ.1 N ls u.2.2.2.2.2.1 κ.2.2.2.2.1 ∧
  (∀ a t, u.1 a = some t → P a = some t) ∧ zk_ef u.2.2.2.1 u.2.2.1 u.1 u.2.1 F ∧ va_S (fun q => w.2.2.2.1 ≤ q) s.heap H locs ∧ zk_pa N u.2.2.1 κ.2.2.2.2.2.1 ∧ zk_fr N u.1 κ.2.2.2.2.2.2 ∧ (∀ (i : Nat) (n : Int), u.2.2.2.2.1[i]? = some n → N[i]? = some n) ∧ ∀ q, q < s.heap.size → u.2.2.2.2.2.2 q → P q = none ∧ H[q]? = s.heap[q]?
theorem zk_df.le {V V' : List zk_F} {N N' : List Int} {D : List (Nat × Nat × Int)} (hl : zk_le V N V' N') (h : zk_df N D) : zk_df N' D := by
  intro q hq
  obtain ⟨n, k, h1, h2, h3⟩ := h q hq
  exact ⟨n, k, hl.1 _ _ h1, hl.1 _ _ h2, h3⟩
theorem zk_fa1.le {V V' : List zk_F} {N N' : List Int} {P : Nat → Option Nat} {F : Nat → va_E} {x k : Nat} {q : zk_S} (hl : zk_le V N V' N') (h : zk_fa1 V N P F x k q) : zk_fa1 V' N' P F x k q := by
  obtain ⟨n, t, v, h1, h2, h3, h4, h5⟩ := h
  exact ⟨n, t, v, hl.1 _ _ h1, h2, h3, h4, hl.2 _ _ h5⟩
theorem zk_rw.le {w : zk_W} {X : Nat → Prop} {V V' : List zk_F} {N N' : List Int} {P : Nat → Option Nat} {H : Heap} (hl : zk_le V N V' N') : ∀ {r : List (Nat × Nat × List zk_S)} {b : Nat}, zk_rw w X V N P H r b → zk_rw w X V' N' P H r b
  | [], _, _ => trivial
  | _ :: _, _, ⟨n, fs, h1, h2, h3, h4, h5, h6, h7⟩ => ⟨n, fs, hl.1 _ _ h1, h2, h3, h4, h5, zk_all2_imp hl.2 h6, zk_rw.le hl h7⟩
theorem zk_rw.mono {w : zk_W} {X : Nat → Prop} {V : List zk_F} {N : List Int} {P : Nat → Option Nat} {H : Heap} {b b' : Nat} (hb : b ≤ b') : ∀ {r : List (Nat × Nat × List zk_S)}, zk_rw w X V N P H r b → zk_rw w X V N P H r b'
  | [], _ => trivial
  | _ :: _, ⟨n, fs, h1, h2, h3⟩ => ⟨n, fs, h1, by omega, h3⟩
/-- the raw objects stay where the typed cells and the heap beside them change -/
theorem zk_rw.kept {w : zk_W} {X : Nat → Prop} {V : List zk_F} {N : List Int} {P P' : Nat → Option Nat} {H H' : Heap} : ∀ {r : List (Nat × Nat × List zk_S)} {b : Nat}, zk_rw w X V N P H r b → (∀ n, n < b → P n = none → P' n = none ∧ H'[n]? = H[n]?) → zk_rw w X V N P' H' r b
  | [], _, _, _ => trivial
  | _ :: _, _, ⟨n, fs, h1, h2, h3, h4, h5, h6, h7⟩, hk => ⟨n, fs, h1, h2, h3, (hk n h2 h4).1, va_at.kept h5 (hk n h2 h4).2, h6, zk_rw.kept h7 (fun q hq hn => hk q (Nat.lt_trans hq h2) hn)⟩
theorem zk_lo.le {V V' : List zk_F} {N N' : List Int} {ls : Array Slot} {nL : Nat} {L : List (Nat × zk_S)} (hl : zk_le V N V' N') (h : zk_lo V N ls nL L) : zk_lo V' N' ls nL L := by
  obtain ⟨lv, h1, h2⟩ := h
  exact ⟨lv, h1, zk_all2_imp (fun _ _ q => ⟨q.1, hl.2 _ _ q.2⟩) h2⟩
theorem zk_G.le {w : zk_W} {s : State} {u : zk_M} {κ : zk_C} {N N' : List Int} {V' : List zk_F} {P : Nat → Option Nat} {F : Nat → va_E} {H : Heap} {locs : List Loc} {ls : Array Slot} (h : zk_G w s u κ N P F H locs ls) (hl : zk_le κ.1 N V' N') (hv : zk_all2 (zk_ok P) V' N') : zk_G w s u (V', κ.2) N' P F H locs ls := by
  obtain ⟨h1, h2, h3, h4, h5, h6, h7, h8, h9, h10, h11, h12, h13⟩ := h
  exact ⟨hv, h2.le hl, fun q hq => (h3 q hq).le hl, h4.le hl, h5, h6.le hl, h7, h8, h9, fun q hq => (h10 q hq).imp fun n z => ⟨hl.1 _ _ z.1, z.2⟩, fun q hq => (h11 q hq).imp fun n z => ⟨hl.1 _ _ z.1, z.2⟩, fun i n z => hl.1 _ _ (h12 i n z), h13⟩
theorem zk_G.push {w : zk_W} {s : State} {u : zk_M} {κ : zk_C} {N : List Int} {P : Nat → Option Nat} {F : Nat → va_E} {H : Heap} {locs : List Loc} {ls : Array Slot} (h : zk_G w s u κ N P F H locs ls) {f : zk_F} {n : Int} (hf : zk_ok P f n) : zk_G w s u (κ.1 ++ [f], κ.2) (N ++ [n]) P F H locs ls :=
  h.le (zk_le.snoc f n) (zk_all2_snoc hf h.1)
theorem zk_sv_last {V : List zk_F} {N : List Int} {P : Nat → Option Nat} (h : zk_all2 (zk_ok P) V N) {f : zk_F} {n : Int} (hf : zk_ok P f n) : zk_sv (V ++ [f]) (N ++ [n]) (V.length, 0) (zk_mk f.1 n) := by
  refine ⟨f, n, zk_get_last, ?_, ?_, ?_⟩
  · rw [zk_all2_len h]; exact zk_get_last
  · simpa using hf.rg
  · simp
/-- one variable narrower -/
theorem zk_G.set {w : zk_W} {s : State} {u : zk_M} {κ : zk_C} {N : List Int} {P : Nat → Option Nat} {F : Nat → va_E} {H : Heap} {locs : List Loc} {ls : Array Slot} (h : zk_G w s u κ N P F H locs ls) {x : Nat} {f f' : zk_F} (hf : κ.1[x]? = some f) (hk : f'.1 = f.1 ∨ (2 ≤ f'.1 ∧ 2 ≤ f.1)) (hn : ∀ n, N[x]? = some n → zk_ok P f n → zk_ok P f' n) : zk_G w s u (κ.1.set x f', κ.2) N P F H locs ls := by
  refine h.le (zk_le.set hf hk) (zk_all2_setL h.1 fun n hx => ?_)
  obtain ⟨n', h1, h2⟩ := zk_all2_get h.1 hf
  cases hx.symm.trans h1
  exact hn n hx h2
theorem zk_G.dif {w : zk_W} {s : State} {u : zk_M} {κ : zk_C} {N : List Int} {P : Nat → Option Nat} {F : Nat → va_E} {H : Heap} {locs : List Loc} {ls : Array Slot} (h : zk_G w s u κ N P F H locs ls) {q : Nat × Nat × Int} (hq : ∃ n k, N[q.1]? = some n ∧ N[q.2.1]? = some k ∧ n ≤ k + q.2.2) : zk_G w s u (κ.1, q :: κ.2.1, κ.2.2) N P F H locs ls := by
  obtain ⟨h1, h2, h3⟩ := h
  refine ⟨h1, fun z hz => ?_, h3⟩
  rcases List.mem_cons.mp hz with rfl | hz
  · exact hq
  · exact h2 z hz
def zk_kd (V : List zk_F) (q : zk_S) : Nat := match V[q.1]? with
  | some f => f.1
  | none => 99
def zk_lw (V : List zk_F) (q : zk_S) : Int := match V[q.1]? with
  | some f => f.2.2.1 + q.2
  | none => 0
def zk_hg (V : List zk_F) (q : zk_S) : Int := match V[q.1]? with
  | some f => f.2.2.2 + q.2
  | none => 0
/-- a value of kind 0: its number, within its bounds -/
theorem zk_sv.int {P : Nat → Option Nat} {V : List zk_F} {N : List Int} (h : zk_all2 (zk_ok P) V N) {q : zk_S} {v : Value} (hv : zk_sv V N q v) (hk : zk_kd V q = 0) : ∃ n, v = .int (Int32.ofInt n) ∧ zk_rg 0 n ∧ zk_lw V q ≤ n ∧ n ≤ zk_hg V q ∧ ∃ k, N[q.1]? = some k ∧ n = k + q.2 := by
  obtain ⟨f, n, h1, h2, h3, h4⟩ := hv
  unfold zk_kd at hk
  unfold zk_lw zk_hg
  rw [h1] at hk ⊢
  obtain ⟨n', e1, e2⟩ := zk_all2_get h h1
  cases h2.symm.trans e1
  have hk : f.1 = 0 := hk
  have iv := e2.iv (by omega)
  rw [hk] at h3 h4
  exact ⟨n + q.2, h4, h3, by show f.2.2.1 + q.2 ≤ _; omega, by show _ ≤ f.2.2.2 + q.2; omega, n, h2, rfl⟩
theorem zk_sv.long {P : Nat → Option Nat} {V : List zk_F} {N : List Int} (h : zk_all2 (zk_ok P) V N) {q : zk_S} {v : Value} (hv : zk_sv V N q v) (hk : zk_kd V q = 1) : ∃ n, v = .long (Int64.ofInt n) ∧ zk_rg 1 n ∧ zk_lw V q ≤ n ∧ n ≤ zk_hg V q ∧ ∃ k, N[q.1]? = some k ∧ n = k + q.2 := by
  obtain ⟨f, n, h1, h2, h3, h4⟩ := hv
  unfold zk_kd at hk
  unfold zk_lw zk_hg
  rw [h1] at hk ⊢
  obtain ⟨n', e1, e2⟩ := zk_all2_get h h1
  cases h2.symm.trans e1
  have hk : f.1 = 1 := hk
  have iv := e2.iv (by omega)
  rw [hk] at h3 h4
  exact ⟨n + q.2, h4, h3, by show f.2.2.1 + q.2 ≤ _; omega, by show _ ≤ f.2.2.2 + q.2; omega, n, h2, rfl⟩
theorem zk_mk_ref {k : Nat} (hk : 2 ≤ k) (n : Int) : zk_mk k n = if n < 0 then .null else .ref n.toNat := by
  match k, hk with
  | i + 2, _ => rfl
/-- a reference, of any kind: null or a cell's address -/
theorem zk_sv.ref {V : List zk_F} {N : List Int} {q : zk_S} {v : Value} (hv : zk_sv V N q v) (hk : 2 ≤ zk_kd V q) (hk2 : zk_kd V q < 99) : (v = .null ∨ ∃ a, v = .ref a) ∧ ∃ n, N[q.1]? = some n ∧ v = if n + q.2 < 0 then .null else .ref (n + q.2).toNat := by
  obtain ⟨f, n, h1, h2, h3, h4⟩ := hv
  unfold zk_kd at hk
  rw [h1] at hk
  rw [zk_mk_ref hk] at h4
  refine ⟨?_, n, h2, h4⟩
  rw [h4]
  split
  · exact Or.inl rfl
  · exact Or.inr ⟨_, rfl⟩
theorem zk_sv.cat {V : List zk_F} {N : List Int} {q : zk_S} {v : Value} (hv : zk_sv V N q v) : v.category = if zk_kd V q = 1 then 2 else 1 := by
  obtain ⟨f, n, h1, h2, h3, h4⟩ := hv
  unfold zk_kd
  rw [h1, h4]
  obtain ⟨k, r⟩ := f
  match k with
  | 0 => rfl
  | 1 => rfl
  | k + 2 =>
    show (if _ then Value.null else Value.ref _).category = if k + 2 = 1 then 2 else 1
    have e9 : ¬ k + 2 = 1 := by omega
    simp only [e9, if_false]
    split <;> rfl
end
section
/-! part 4: groups of instructions -/
section ZKW
variable {p : Program} {l : Launch} {e : Env} {R : Room} {s : State} {m : MethodId} {args : Array Value} {below : List Frame} {meth : Method} {c : Code} {H : Heap} {locs : List Loc} {cells slots : Nat} {Q : State → Prop}
variable {cc : ByteArray} {pc : Nat} {ls : Array Slot} {rest : List Value}
/-- loads: kind, which local, length -/
def zk_ldK (i : ClassFile.Instr) : Option (Nat × Nat × Nat) := match i with
  | .iload k => some (0, k, 2)
  | .iload_n n => some (0, n.val, 1)
  | .lload k => some (1, k, 2)
  | .lload_n n => some (1, n.val, 1)
  | .aload k => some (2, k, 2)
  | .aload_n n => some (2, n.val, 1)
  | _ => none
def zk_vk (k : Nat) (v : Value) : Prop := match k with
  | 0 => ∃ x, v = .int x
  | 1 => ∃ x, v = .long x
  | _ => v = .null ∨ ∃ a, v = .ref a
theorem zw_load (hx : p.tables.exec = Jvm.exec) (hb : c.code = cc) {i : ClassFile.Instr} {k n len : Nat} (hi : zk_ldK i = some (k, n, len)) {v : Value} (hdg : decode cc pc = .ok (i, len)) (hl : ls[n]? = some (.val v)) (hv : zk_vk k v)
    (kk : W p l e R s m args below meth c H locs cells slots Q (F0 m (pc + len) ls (v :: rest))) : W p l e R s m args below meth c H locs cells slots Q (F0 m pc ls rest) := by
  cases i <;> simp only [zk_ldK, Option.some.injEq, Prod.mk.injEq, reduceCtorEq] at hi
  case iload j =>
    obtain ⟨rfl, rfl, rfl⟩ := hi
    obtain ⟨x, rfl⟩ := hv
    exact lv_iload hx hb hdg hl kk
  case iload_n j =>
    obtain ⟨rfl, rfl, rfl⟩ := hi
    obtain ⟨x, rfl⟩ := hv
    exact lv_iload_n hx hb hdg rfl hl kk
  case lload j =>
    obtain ⟨rfl, rfl, rfl⟩ := hi
    obtain ⟨x, rfl⟩ := hv
    exact lv_lload hx hb hdg hl kk
  case lload_n j =>
    obtain ⟨rfl, rfl, rfl⟩ := hi
    obtain ⟨x, rfl⟩ := hv
    exact lv_lload_n hx hb hdg rfl hl kk
  case aload j =>
    obtain ⟨rfl, rfl, rfl⟩ := hi
    rcases hv with rfl | ⟨a, rfl⟩
    · exact lv_aloadN hx hb hdg hl kk
    · exact lv_aload hx hb hdg hl kk
  case aload_n j =>
    obtain ⟨rfl, rfl, rfl⟩ := hi
    rcases hv with rfl | ⟨a, rfl⟩
    · exact lv_aload_nN hx hb hdg rfl hl kk
    · exact lv_aload_n hx hb hdg rfl hl kk
/-- stores -/
def zk_stK (i : ClassFile.Instr) : Option (Nat × Nat × Nat) := match i with
  | .istore k => some (0, k, 2)
  | .istore_n n => some (0, n.val, 1)
  | .lstore k => some (1, k, 2)
  | .lstore_n n => some (1, n.val, 1)
  | .astore k => some (2, k, 2)
  | .astore_n n => some (2, n.val, 1)
  | _ => none
/-- which locals stay behind a store at i -/
def zk_st1 (k i : Nat) (j cat : Nat) : Bool := if k = 1 then !(j == i) && (!(j == i + 1) && !(j + 1 == i && cat == 2)) else !(j == i) && !(j + 1 == i && cat == 2)
def zk_ck (k i nL : Nat) : Prop := if k = 1 then i + 1 < nL else i < nL
theorem zw_store (hx : p.tables.exec = Jvm.exec) (hb : c.code = cc) {i : ClassFile.Instr} {k n len : Nat} (hi : zk_stK i = some (k, n, len)) {v : Value} {nL : Nat} {lv : List (Nat × Value)} (hdg : decode cc pc = .ok (i, len)) (h : lv_has ls nL lv) (hn : zk_ck k n nL) (hv : zk_vk k v)
    (kk : ∀ ls' : Array Slot, lv_has ls' nL ((n, v) :: lv.filter (fun q => zk_st1 k n q.1 q.2.category)) → W p l e R s m args below meth c H locs cells slots Q (F0 m (pc + len) ls' rest)) : W p l e R s m args below meth c H locs cells slots Q (F0 m pc ls (v :: rest)) := by
  cases i <;> simp only [zk_stK, Option.some.injEq, Prod.mk.injEq, reduceCtorEq] at hi
  case istore j =>
    obtain ⟨rfl, rfl, rfl⟩ := hi
    obtain ⟨x, rfl⟩ := hv
    exact lv_istore hx hb hdg h hn rfl kk
  case istore_n j =>
    obtain ⟨rfl, rfl, rfl⟩ := hi
    obtain ⟨x, rfl⟩ := hv
    exact lv_istore_n hx hb hdg rfl h hn rfl kk
  case lstore j =>
    obtain ⟨rfl, rfl, rfl⟩ := hi
    obtain ⟨x, rfl⟩ := hv
    exact lv_lstore hx hb hdg h hn rfl kk
  case lstore_n j =>
    obtain ⟨rfl, rfl, rfl⟩ := hi
    obtain ⟨x, rfl⟩ := hv
    exact lv_lstore_n hx hb hdg rfl h hn rfl kk
  case astore j =>
    obtain ⟨rfl, rfl, rfl⟩ := hi
    rcases hv with rfl | ⟨a, rfl⟩
    · exact lv_astoreN hx hb hdg h hn rfl kk
    · exact lv_astore hx hb hdg h hn rfl kk
  case astore_n j =>
    obtain ⟨rfl, rfl, rfl⟩ := hi
    rcases hv with rfl | ⟨a, rfl⟩
    · exact lv_astore_nN hx hb hdg rfl h hn rfl kk
    · exact lv_astore_n hx hb hdg rfl h hn rfl kk
/-- constants: kind, number, length -/
def zk_cnK (i : ClassFile.Instr) : Option (Nat × Int × Nat) := match i with
  | .iconst n => some (0, n, 1)
  | .bipush n => if -128 ≤ n ∧ n ≤ 127 then some (0, n, 2) else none
  | .sipush n => if -32768 ≤ n ∧ n ≤ 32767 then some (0, n, 3) else none
  | .lconst n => some (1, (n.val : Int), 1)
  | .aconst_null => some (2, -1, 1)
  | _ => none
theorem zw_const (hx : p.tables.exec = Jvm.exec) (hb : c.code = cc) {i : ClassFile.Instr} {k len : Nat} {n : Int} (hi : zk_cnK i = some (k, n, len)) (hdg : decode cc pc = .ok (i, len))
    (kk : W p l e R s m args below meth c H locs cells slots Q (F0 m (pc + len) ls (zk_mk k n :: rest))) : W p l e R s m args below meth c H locs cells slots Q (F0 m pc ls rest) := by
  cases i <;> simp only [zk_cnK, Option.some.injEq, Prod.mk.injEq, reduceCtorEq] at hi
  case iconst j =>
    obtain ⟨rfl, rfl, rfl⟩ := hi
    exact lv_iconst hx hb hdg rfl kk
  case bipush j =>
    split at hi
    · rename_i hr
      simp only [Option.some.injEq, Prod.mk.injEq] at hi
      obtain ⟨rfl, rfl, rfl⟩ := hi
      refine lv_bipush (v := Int32.ofInt j) hx hb hdg ?_ kk
      rw [← Int32.toInt_inj, Int8.toInt_toInt32, Int8.toInt_ofInt_of_le (by omega) (by omega), Int32.toInt_ofInt_of_le (by omega) (by omega)]
    · cases hi
  case sipush j =>
    split at hi
    · rename_i hr
      simp only [Option.some.injEq, Prod.mk.injEq] at hi
      obtain ⟨rfl, rfl, rfl⟩ := hi
      refine lv_sipush (v := Int32.ofInt j) hx hb hdg ?_ kk
      rw [← Int32.toInt_inj, Int16.toInt_toInt32, Int16.toInt_ofInt_of_le (by omega) (by omega), Int32.toInt_ofInt_of_le (by omega) (by omega)]
    · cases hi
  case lconst j =>
    obtain ⟨rfl, rfl, rfl⟩ := hi
    exact lv_lconst (v := Int64.ofInt (j.val : Int)) hx hb hdg (by first | rfl | (match j with | 0 => rfl | 1 => rfl)) kk
  case aconst_null =>
    obtain ⟨rfl, rfl, rfl⟩ := hi
    exact lv_null hx hb hdg kk
/-- ints: two make one -/
def zk_bnK (i : ClassFile.Instr) : Option Nat := match i with
  | .iadd => some 0
  | .isub => some 1
  | .imul => some 2
  | .iand => some 3
  | .ior => some 4
  | .ixor => some 5
  | .ishl => some 6
  | .ishr => some 7
  | .iushr => some 8
  | .idiv => some 9
  | .irem => some 10
  | _ => none
def zk_bn (o : Nat) (x y : Int32) : Int32 := match o with
  | 0 => x + y
  | 1 => x - y
  | 2 => x * y
  | 3 => x &&& y
  | 4 => x ||| y
  | 5 => x ^^^ y
  | 6 => x <<< (y &&& 31)
  | 7 => x >>> (y &&& 31)
  | 8 => (x.toUInt32 >>> (y.toUInt32 &&& Int32.toUInt32 31)).toInt32
  | 9 => x / y
  | _ => x - x / y * y
theorem zw_bin (hx : p.tables.exec = Jvm.exec) (hb : c.code = cc) {i : ClassFile.Instr} {o : Nat} (hi : zk_bnK i = some o) (hdg : decode cc pc = .ok (i, 1)) {x y : Int32} (hne : 9 ≤ o → ¬ y = 0)
    (kk : W p l e R s m args below meth c H locs cells slots Q (F0 m (pc + 1) ls (.int (zk_bn o x y) :: rest))) : W p l e R s m args below meth c H locs cells slots Q (F0 m pc ls (.int y :: .int x :: rest)) := by
  cases i <;> simp only [zk_bnK, Option.some.injEq, reduceCtorEq] at hi <;> subst hi
  case iadd => exact lv_iadd hx hb hdg kk
  case isub => exact lv_isub hx hb hdg kk
  case imul => exact lv_imul hx hb hdg kk
  case iand => exact lv_iand hx hb hdg kk
  case ior => exact lv_ior hx hb hdg kk
  case ixor => exact lv_ixor hx hb hdg kk
  case ishl => exact lv_ishl hx hb hdg kk
  case ishr => exact lv_ishr hx hb hdg kk
  case iushr => exact lv_iushr hx hb hdg rfl kk
  case idiv => exact lv_idiv hx hb hdg (hne (by decide)) kk
  case irem => exact lv_irem hx hb hdg (hne (by decide)) kk
/-- ints: one makes one -/
def zk_unK (i : ClassFile.Instr) : Option Nat := match i with
  | .ineg => some 0
  | .i2b => some 1
  | .i2c => some 2
  | .i2s => some 3
  | _ => none
def zk_un (o : Nat) (x : Int32) : Int32 := match o with
  | 0 => -x
  | 1 => x.toInt8.toInt32
  | 2 => (x.toUInt32 % 65536).toInt32
  | _ => x.toInt16.toInt32
theorem zw_un (hx : p.tables.exec = Jvm.exec) (hb : c.code = cc) {i : ClassFile.Instr} {o : Nat} (hi : zk_unK i = some o) (hdg : decode cc pc = .ok (i, 1)) {x : Int32}
    (kk : W p l e R s m args below meth c H locs cells slots Q (F0 m (pc + 1) ls (.int (zk_un o x) :: rest))) : W p l e R s m args below meth c H locs cells slots Q (F0 m pc ls (.int x :: rest)) := by
  cases i <;> simp only [zk_unK, Option.some.injEq, reduceCtorEq] at hi <;> subst hi
  case ineg => exact lv_ineg hx hb hdg kk
  case i2b => exact lv_i2b hx hb hdg rfl kk
  case i2c => exact lv_i2c hx hb hdg rfl kk
  case i2s => exact lv_i2s hx hb hdg rfl kk
/-- longs: two make one -/
def zk_lbK (i : ClassFile.Instr) : Option Nat := match i with
  | .ladd => some 0
  | .lsub => some 1
  | .lmul => some 2
  | .land => some 3
  | .lor => some 4
  | .lxor => some 5
  | .ldiv => some 9
  | .lrem => some 10
  | _ => none
def zk_lb (o : Nat) (x y : Int64) : Int64 := match o with
  | 0 => x + y
  | 1 => x - y
  | 2 => x * y
  | 3 => x &&& y
  | 4 => x ||| y
  | 5 => x ^^^ y
  | 9 => x / y
  | _ => x - x / y * y
theorem zw_lbin (hx : p.tables.exec = Jvm.exec) (hb : c.code = cc) {i : ClassFile.Instr} {o : Nat} (hi : zk_lbK i = some o) (hdg : decode cc pc = .ok (i, 1)) {x y : Int64} (hne : 9 ≤ o → ¬ y = 0)
    (kk : W p l e R s m args below meth c H locs cells slots Q (F0 m (pc + 1) ls (.long (zk_lb o x y) :: rest))) : W p l e R s m args below meth c H locs cells slots Q (F0 m pc ls (.long y :: .long x :: rest)) := by
  cases i <;> simp only [zk_lbK, Option.some.injEq, reduceCtorEq] at hi <;> subst hi
  case ladd => exact lv_ladd hx hb hdg kk
  case lsub => exact lv_lsub hx hb hdg kk
  case lmul => exact lv_lmul hx hb hdg kk
  case land => exact lv_land hx hb hdg kk
  case lor => exact lv_lor hx hb hdg kk
  case lxor => exact lv_lxor hx hb hdg kk
  case ldiv => exact lv_ldiv hx hb hdg (hne (by decide)) kk
  case lrem => exact lv_lrem hx hb hdg (hne (by decide)) kk
/-- comparisons of numbers -/
def zk_cmp (k : ClassFile.Cond) (a b : Int) : Prop := match k with
  | .eq => a = b
  | .ne => ¬ a = b
  | .lt => a < b
  | .ge => b ≤ a
  | .gt => b < a
  | .le => a ≤ b
theorem zw_icmp (hx : p.tables.exec = Jvm.exec) (hb : c.code = cc) {k : ClassFile.Cond} {off : Int} {tgt : Nat} (hdg : decode cc pc = .ok (.if_icmp k off, 3)) (ht : (pc : Int) + off = (tgt : Int)) {a b : Int} (ha : zk_rg 0 a) (hb' : zk_rg 0 b)
    (kt : zk_cmp k a b → W p l e R s m args below meth c H locs cells slots Q (F0 m tgt ls rest)) (kf : ¬ zk_cmp k a b → W p l e R s m args below meth c H locs cells slots Q (F0 m (pc + 3) ls rest)) : W p l e R s m args below meth c H locs cells slots Q (F0 m pc ls (.int (Int32.ofInt b) :: .int (Int32.ofInt a) :: rest)) := by
  cases k
  case eq => exact lv_icmp_eq hx hb hdg ht (fun q => kt ((zk_eq32 ha hb').mp q)) (fun q => kf (fun z => q ((zk_eq32 ha hb').mpr z)))
  case ne => exact lv_icmp_ne hx hb hdg ht (fun q => kt (fun z => q ((zk_eq32 ha hb').mpr z))) (fun q => kf (fun z => z ((zk_eq32 ha hb').mp q)))
  case lt => exact lv_icmp_lt hx hb hdg ht (fun q => kt ((zk_lt32 ha hb').mp q)) (fun q => kf (fun z => q ((zk_lt32 ha hb').mpr z)))
  case ge => exact lv_icmp_ge hx hb hdg ht (fun q => kt ((zk_le32 hb' ha).mp q)) (fun q => kf (fun z => q ((zk_le32 hb' ha).mpr z)))
  case gt => exact lv_icmp_gt hx hb hdg ht (fun q => kt ((zk_lt32 hb' ha).mp q)) (fun q => kf (fun z => q ((zk_lt32 hb' ha).mpr z)))
  case le => exact lv_icmp_le hx hb hdg ht (fun q => kt ((zk_le32 ha hb').mp q)) (fun q => kf (fun z => q ((zk_le32 ha hb').mpr z)))
theorem zk_z32 : Int32.ofInt 0 = 0 := by decide
theorem zw_if (hx : p.tables.exec = Jvm.exec) (hb : c.code = cc) {k : ClassFile.Cond} {off : Int} {tgt : Nat} (hdg : decode cc pc = .ok (.ifCond k off, 3)) (ht : (pc : Int) + off = (tgt : Int)) {a : Int} (ha : zk_rg 0 a)
    (kt : zk_cmp k a 0 → W p l e R s m args below meth c H locs cells slots Q (F0 m tgt ls rest)) (kf : ¬ zk_cmp k a 0 → W p l e R s m args below meth c H locs cells slots Q (F0 m (pc + 3) ls rest)) : W p l e R s m args below meth c H locs cells slots Q (F0 m pc ls (.int (Int32.ofInt a) :: rest)) := by
  have hb' : zk_rg 0 0 := by constructor <;> decide
  cases k
  case eq => exact lv_if_eq hx hb hdg ht (fun q => kt ((zk_eq32 ha hb').mp (q.trans zk_z32.symm))) (fun q => kf (fun z => q (zk_z32 ▸ (zk_eq32 ha hb').mpr z)))
  case ne => exact lv_if_ne hx hb hdg ht (fun q => kt (fun z => q (zk_z32 ▸ (zk_eq32 ha hb').mpr z))) (fun q => kf (fun z => z ((zk_eq32 ha hb').mp (q.trans zk_z32.symm))))
  case lt => exact lv_if_lt hx hb hdg ht (fun q => kt ((zk_lt32 ha hb').mp (by rw [zk_z32]; exact q))) (fun q => kf (fun z => q (by have h9 := (zk_lt32 ha hb').mpr z; rw [zk_z32] at h9; exact h9)))
  case ge => exact lv_if_ge hx hb hdg ht (fun q => kt ((zk_le32 hb' ha).mp (by rw [zk_z32]; exact q))) (fun q => kf (fun z => q (by have h9 := (zk_le32 hb' ha).mpr z; rw [zk_z32] at h9; exact h9)))
  case gt => exact lv_if_gt hx hb hdg ht (fun q => kt ((zk_lt32 hb' ha).mp (by rw [zk_z32]; exact q))) (fun q => kf (fun z => q (by have h9 := (zk_lt32 hb' ha).mpr z; rw [zk_z32] at h9; exact h9)))
  case le => exact lv_if_le hx hb hdg ht (fun q => kt ((zk_le32 ha hb').mp (by rw [zk_z32]; exact q))) (fun q => kf (fun z => q (by have h9 := (zk_le32 ha hb').mpr z; rw [zk_z32] at h9; exact h9)))
/-- lcmp and the branch behind it -/
theorem zw_lcmp (hx : p.tables.exec = Jvm.exec) (hb : c.code = cc) {k : ClassFile.Cond} {off : Int} {tgt : Nat} (hdg : decode cc pc = .ok (.lcmp, 1)) (hdg2 : decode cc (pc + 1) = .ok (.ifCond k off, 3)) (ht : ((pc + 1 : Nat) : Int) + off = (tgt : Int)) {a b : Int} (ha : zk_rg 1 a) (hb' : zk_rg 1 b)
    (kt : zk_cmp k a b → W p l e R s m args below meth c H locs cells slots Q (F0 m tgt ls rest)) (kf : ¬ zk_cmp k a b → W p l e R s m args below meth c H locs cells slots Q (F0 m (pc + 4) ls rest)) : W p l e R s m args below meth c H locs cells slots Q (F0 m pc ls (.long (Int64.ofInt b) :: .long (Int64.ofInt a) :: rest)) := by
  refine W.lcmp hx hb hdg ?_
  have e : ∃ n : Int, lg_cmp (Int64.ofInt a) (Int64.ofInt b) = Int32.ofInt n ∧ zk_rg 0 n ∧ (zk_cmp k n 0 ↔ zk_cmp k a b) := by
    unfold lg_cmp
    have h1 : (Int64.ofInt a > Int64.ofInt b) ↔ b < a := zk_lt64 hb' ha
    have h2 : (Int64.ofInt a = Int64.ofInt b) ↔ a = b := zk_eq64 ha hb'
    by_cases c1 : b < a
    · rw [if_pos (h1.mpr c1)]
      exact ⟨1, by decide, ⟨by decide, by decide⟩, by cases k <;> simp only [zk_cmp] <;> omega⟩
    · rw [if_neg (fun z => c1 (h1.mp z))]
      by_cases c2 : a = b
      · rw [if_pos (h2.mpr c2)]
        exact ⟨0, by decide, ⟨by decide, by decide⟩, by subst c2; cases k <;> simp [zk_cmp]⟩
      · rw [if_neg (fun z => c2 (h2.mp z))]
        exact ⟨-1, by decide, ⟨by decide, by decide⟩, by cases k <;> simp only [zk_cmp] <;> omega⟩
  obtain ⟨n, e1, e2, e3⟩ := e
  rw [e1]
  exact zw_if hx hb hdg2 ht e2 (fun q => kt (e3.mp q)) (fun q => kf (fun z => q (e3.mpr z)))
end ZKW
end
section
/-! part 5: one cell read, written, made -/
/-- what the tables say of the classes: their fields are laid, their names apart, their types -/
def zk_cls (w : zk_W) (Ts : List Jvm.Cond) : Prop := ∀ (ci : Nat) (C : String) (T : u_T) (N : Nat), w.2.1[ci]? = some (C, T, N) → (∀ x ∈ u_ws C T N, x ∈ Ts) ∧ (∀ a, a < N → ∀ b, b < N → a ≠ b → (T a).2.1 ≠ (T b).2.1) ∧ ∃ ty : Nat → FieldType, ∀ k, k < N → parseFieldDescriptor (T k).2.2.1 = some (ty k)
/-- a place in the pool of 'own' names field k of class ci -/
def zk_fl (w : zk_W) (s : State) (args : Array Value) (own : String) (idx ci k : Nat) : Prop := ∃ (C : String) (T : u_T) (N : Nat) (ref : String), w.2.1[ci]? = some (C, T, N) ∧ k < N ∧ (∀ x, s.fieldFound? (T k).1 (T k).2.1 (T k).2.2.1 = some x → s.fieldFound? ref (T k).2.1 (T k).2.2.1 = some x) ∧
  ((Jvm.Cond.fieldLink own idx ref (T k).2.1 (T k).2.2.1).before args s = true ∨ ∃ host, (Jvm.Cond.fieldLinkNest own idx ref (T k).2.1 (T k).2.2.1 host).before args s = true)
theorem zk_P1 {D : va_G} {cl : List vw_C} {q : Nat × va_E} {H : Heap} (h : va_at D cl q H) : va_P D cl [q] H := by
  intro k z hz
  match k with
  | 0 =>
    simp at hz
    subst hz
    exact h
  | k + 1 => simp at hz
section ZKH
variable {p : Program} {l : Launch} {e : Env} {R : Room} {s : State} {m : MethodId} {args : Array Value} {below : List Frame} {meth : Method} {c : Code} {H : Heap} {locs : List Loc} {cells slots : Nat} {Q : State → Prop}
variable {cc : ByteArray} {pc : Nat} {ls : Array Slot} {rest : List Value} {w : zk_W} {Ts : List Jvm.Cond} {own : String}
theorem zw_getf (hx : p.tables.exec = Jvm.exec) (hb : c.code = cc) (hts : ∀ x ∈ Ts, x.before args s = true) (hcl : zk_cls w Ts) (hown : s.vm.findClass own = some m.cls) (hK : va_K w.2.2.1 w.2.1 [] s) {idx ci k : Nat} (hF : zk_fl w s args own idx ci k) {a : Nat} {fs : List Value} (hat : va_at w.2.2.1 w.2.1 (a, .inr (ci, fs)) H) {v : Value} (hv : fs[k]? = some v) (hdg : decode cc pc = .ok (.getfield idx, 3))
    (kk : W p l e R s m args below meth c H locs cells slots Q (F0 m (pc + 3) ls (v :: rest))) : W p l e R s m args below meth c H locs cells slots Q (F0 m pc ls (.ref a :: rest)) := by
  obtain ⟨C, T, N, ref, hc, hk, hsame, hl | ⟨host, hl⟩⟩ := hF
  · exact va_get (ws := [(a, .inr (ci, fs))]) hx hb hts (hcl ci C T N hc).1 hown hK (zk_P1 hat) 0 rfl hc k hk hl hsame hv hdg kk
  · exact va_getN (ws := [(a, .inr (ci, fs))]) hx hb hts (hcl ci C T N hc).1 hown hK (zk_P1 hat) 0 rfl hc k hk hl hsame hv hdg kk
theorem zw_putf (hx : p.tables.exec = Jvm.exec) (hb : c.code = cc) (hts : ∀ x ∈ Ts, x.before args s = true) (hcl : zk_cls w Ts) (hown : s.vm.findClass own = some m.cls) (hK : va_K w.2.2.1 w.2.1 [] s) {idx ci k : Nat} (hF : zk_fl w s args own idx ci k) {a : Nat} {fs : List Value} (hat : va_at w.2.2.1 w.2.1 (a, .inr (ci, fs)) H) {v : Value}
    (hfin : ∀ (C : String) (T : u_T) (N : Nat), w.2.1[ci]? = some (C, T, N) → (T k).2.2.2 = false ∨ ((T k).2.2.2 = true ∧ meth.name = "<init>" ∧ (T k).1 = own)) (hty : ∀ (C : String) (T : u_T) (N : Nat), w.2.1[ci]? = some (C, T, N) → ∃ ty, parseFieldDescriptor (T k).2.2.1 = some ty ∧ narrow ty v = v ∧ fits ty v = true) (hlen : k < fs.length) (hdg : decode cc pc = .ok (.putfield idx, 3))
    (kk : ∀ (H1 : Heap) (j : Nat), va_at w.2.2.1 w.2.1 (a, .inr (ci, fs.set k v)) H1 → H1.size = H.size → (∀ q, q ≠ a → H1[q]? = H[q]?) → W p l e R s m args below meth c H1 (locs ++ [⟨a, j⟩]) cells slots Q (F0 m (pc + 3) ls rest)) : W p l e R s m args below meth c H locs cells slots Q (F0 m pc ls (v :: .ref a :: rest)) := by
  obtain ⟨C, T, N, ref, hc, hk, hsame, hl⟩ := hF
  obtain ⟨hin, hnm, ty0, hty0⟩ := hcl ci C T N hc
  have hap := va_apart (own := own) hts hin ty0 hty0 hnm hK hc
  obtain ⟨r, h1, cell, q1, q2, q3, q4⟩ := hat
  have hr : r = (C, T, N) := Option.some.inj (h1.symm.trans hc)
  subst hr
  obtain ⟨hS, hfc, kC, hkC, hkind⟩ := hK.1 ci _ hc
  obtain ⟨cf, kf, fi, f, hi, hsl⟩ := hS k hk
  obtain ⟨ty, hd, hn, hfit⟩ := hty C T N hc
  have hst := (u_facts hfc hkC (u_lays hts hin hk) hi).1
  have hlay := hts _ (hin _ (u_in_lay hk))
  unfold u_lay at hlay
  have fin : ∀ H1 : Heap, H1[a]? = some (cell.setSlot f.slot v) → H1.size = H.size → (∀ q, q ≠ a → H1[q]? = H[q]?) → W p l e R s m args below meth c H1 (locs ++ [⟨a, f.slot⟩]) cells slots Q (F0 m (pc + 3) ls rest) := by
    intro H1 e1 e2 e3
    rw [hsl] at e1 ⊢
    exact kk H1 _ ⟨_, hc, t_OB.to (V := updV (vp_V fs) k v) ⟨_, e1, q2, q3, t_set q4 hap hk v⟩ (fun j _ => vp_updV_set hlen v j)⟩ e2 e3
  rcases hfin C T N hc with hf | ⟨hf, hin2, hdecl⟩
  · rw [if_neg (by rw [hf]; decide)] at hlay
    have h6 := u_store hfc hkC hkind hlay hi hd hn hfit
    rcases hl with hl | ⟨host, hl⟩
    · exact W.putK hx hb (f := f) ⟨hown, hl, ⟨_, _, _, hsame _ hi⟩, hst⟩ (by rw [q2]; exact h6) q1 q3 (by rw [hsl]; exact k2_hasslot (q4 k hk)) rfl rfl hdg fin
    · exact va_WputK hx hb (f := f) hown hl (hsame _ hi) hst (by rw [q2]; exact h6) q1 q3 (by rw [hsl]; exact k2_hasslot (q4 k hk)) rfl rfl hdg fin
  · rw [if_pos hf] at hlay
    have hcf : m.cls = cf := by
      obtain ⟨_, _, c', _, _, _, -, -, hf', -, -, -, hown2, -⟩ := Cond.laysFinal_spec hlay
      have e1 : c' = cf := by have := hi.symm.trans hf'; simp at this; exact this.1.symm
      rw [hdecl] at hown2
      rw [← e1]; exact Option.some.inj (hown.symm.trans hown2)
    have h6 := u_fits hfc hkC hkind (Or.inr hlay) hi hd hn hfit
    rcases hl with hl | ⟨host, hl⟩
    · exact W.putFinK hx hb hown hl (hsame _ hi) hst hcf hin2 (by rw [q2]; exact h6) q1 q3 (by rw [hsl]; exact k2_hasslot (q4 k hk)) rfl rfl hdg fin
    · have ha : a < H.size := (Array.getElem?_eq_some_iff.mp q1).1
      refine va_Wputf hx hb hown hl (hsame _ hi) hst (Or.inr ⟨hcf, hin2⟩) q1 (by rw [q3]; exact fun h => by cases h) (by rw [hsl]; exact k2_hasslot (q4 k hk)) h6.1 (by rw [q2, q3]; exact h6.2) rfl rfl hdg (fin _ ?_ ?_ ?_)
      · simp [Array.getElem?_setIfInBounds, ha]
      · simp
      · intro q hq
        simp [Array.getElem?_setIfInBounds, Ne.symm hq]
/-- a new object: its fields as they are at first -/
theorem zw_newo (hx : p.tables.exec = Jvm.exec) (hb : c.code = cc) (hts : ∀ x ∈ Ts, x.before args s = true) (hcl : zk_cls w Ts) (hown : s.vm.findClass own = some m.cls) (hK : va_K w.2.2.1 w.2.1 [] s) {idx ci : Nat} {C : String} {T : u_T} {N : Nat} (hc : w.2.1[ci]? = some (C, T, N)) (hclk : (Jvm.Cond.classLink own idx C).before args s = true) (hinst : (Jvm.Cond.instantiable C N).before args s = true) (hini : (Jvm.Cond.initialized C).before args s = true) {fs : List Value}
    (hfs : ∀ j ty, j < N → parseFieldDescriptor (T j).2.2.1 = some ty → defaultValue ty = vp_V fs j) (hcells : cells + 1 ≤ R.cells) (hslots : slots + N ≤ R.slots) (hdg : decode cc pc = .ok (.new idx, 3))
    (kk : ∀ (H1 : Heap), va_at w.2.2.1 w.2.1 (H.size, .inr (ci, fs)) H1 → H1.size = H.size + 1 → (∀ q, q < H.size → H1[q]? = H[q]?) → W p l e R s m args below meth c H1 locs (cells + 1) (slots + N) Q (F0 m (pc + 3) ls (.ref H.size :: rest))) : W p l e R s m args below meth c H locs cells slots Q (F0 m pc ls rest) := by
  have hKn := hK.1 ci _ hc
  obtain ⟨hin, hnm, ty0, hty0⟩ := hcl ci C T N hc
  refine W.newcK hx hb hown hclk hinst hini rfl hdg hcells hslots hKn.2.1 rfl fun H1 kC hkC e1 z1 o1 => ?_
  exact kk H1 ⟨_, hc, (u_born ty0 hts hin hKn hkC e1 hty0).to (fun j hj => hfs j _ hj (hty0 j hj))⟩ z1 o1
/-- arrays of ints, longs, booleans, references: read -/
theorem zw_iald (hx : p.tables.exec = Jvm.exec) (hb : c.code = cc) {a n : Nat} {cA : ClassId} {f : Nat → Int32} (hat : H[a]? = some (vp_cell cA (n, .inl f))) (hA : ArrOfT s cA .int) {i : Int32} (hin : vp_in i n) (hdg : decode cc pc = .ok (.iaload, 1))
    (kk : W p l e R s m args below meth c H locs cells slots Q (F0 m (pc + 1) ls (.int (f i.toNatClampNeg) :: rest))) : W p l e R s m args below meth c H locs cells slots Q (F0 m pc ls (.int i :: .ref a :: rest)) := by
  have hlt : i.toNatClampNeg < n := Nat.not_le.mp fun q => hin (Or.inr q)
  exact W.iald (v := .int (f i.toNatClampNeg)) hx hb hat (hA n (fun j => .int (f j))) (fun q => by cases q) (by show ¬ (i < 0 ∨ (arrV _ _ _).slots.size ≤ _); rw [arrV_size]; exact hin) (by show (arrV _ _ _).slots[_]? = _; rw [arrV_read _ _ hlt]) rfl rfl hdg kk
theorem zw_zald (hx : p.tables.exec = Jvm.exec) (hb : c.code = cc) {a n : Nat} {cA : ClassId} {f : Nat → Int32} (hat : H[a]? = some (vp_cell cA (n, .inl f))) (hA : ArrOfT s cA .boolean) {i : Int32} (hin : vp_in i n) (hdg : decode cc pc = .ok (.baload, 1))
    (kk : W p l e R s m args below meth c H locs cells slots Q (F0 m (pc + 1) ls (.int (f i.toNatClampNeg) :: rest))) : W p l e R s m args below meth c H locs cells slots Q (F0 m pc ls (.int i :: .ref a :: rest)) := by
  have hlt : i.toNatClampNeg < n := Nat.not_le.mp fun q => hin (Or.inr q)
  exact W.zald (v := .int (f i.toNatClampNeg)) hx hb hat (hA n (fun j => .int (f j))) (fun q => by cases q) (by show ¬ (i < 0 ∨ (arrV _ _ _).slots.size ≤ _); rw [arrV_size]; exact hin) (by show (arrV _ _ _).slots[_]? = _; rw [arrV_read _ _ hlt]) rfl rfl hdg kk
theorem zw_lald (hx : p.tables.exec = Jvm.exec) (hb : c.code = cc) {a n : Nat} {cA : ClassId} {f : Nat → Int64} (hat : H[a]? = some (vp_cell cA (n, .inr (.inl f)))) (hA : ArrOfT s cA .long) {i : Int32} (hin : vp_in i n) (hdg : decode cc pc = .ok (.laload, 1))
    (kk : W p l e R s m args below meth c H locs cells slots Q (F0 m (pc + 1) ls (.long (f i.toNatClampNeg) :: rest))) : W p l e R s m args below meth c H locs cells slots Q (F0 m pc ls (.int i :: .ref a :: rest)) := by
  have hlt : i.toNatClampNeg < n := Nat.not_le.mp fun q => hin (Or.inr q)
  exact W.lald (v := .long (f i.toNatClampNeg)) hx hb hat (hA n (fun j => .long (f j))) (fun q => by cases q) (by show ¬ (i < 0 ∨ (arrV _ _ _).slots.size ≤ _); rw [arrV_size]; exact hin) (by show (arrV _ _ _).slots[_]? = _; rw [arrV_read _ _ hlt]) rfl rfl hdg kk
theorem zw_aald (hx : p.tables.exec = Jvm.exec) (hb : c.code = cc) {a n : Nat} {cA : ClassId} {C : String} {f : Nat → Option Nat} (hat : H[a]? = some (vp_cell cA (n, .inr (.inr (.inr (.inr f)))))) (hA : ArrOfT s cA (.object C)) {i : Int32} (hin : vp_in i n) (hdg : decode cc pc = .ok (.aaload, 1))
    (kk : W p l e R s m args below meth c H locs cells slots Q (F0 m (pc + 1) ls (va_rf (f i.toNatClampNeg) :: rest))) : W p l e R s m args below meth c H locs cells slots Q (F0 m pc ls (.int i :: .ref a :: rest)) := by
  have hlt : i.toNatClampNeg < n := Nat.not_le.mp fun q => hin (Or.inr q)
  exact W.aald (v := va_rf (f i.toNatClampNeg)) (ty := .object C) hx hb hat (hA n (fun j => va_rf (f j))) rfl (fun q => by cases q) (by show ¬ (i < 0 ∨ (arrV _ _ _).slots.size ≤ _); rw [arrV_size]; exact hin) (by show (arrV _ _ _).slots[_]? = _; rw [arrV_read _ _ hlt]) rfl rfl hdg kk
/-- .. written -/
theorem zw_iast (hx : p.tables.exec = Jvm.exec) (hb : c.code = cc) {a n : Nat} {cA : ClassId} {f : Nat → Int32} (hat : H[a]? = some (vp_cell cA (n, .inl f))) (hA : ArrOfT s cA .int) {i x : Int32} (hin : vp_in i n) (hdg : decode cc pc = .ok (.iastore, 1))
    (kk : ∀ (H1 : Heap) (j : Nat), H1[a]? = some (vp_cell cA (n, .inl (zk_up f i.toNatClampNeg x))) → H1.size = H.size → (∀ q, q ≠ a → H1[q]? = H[q]?) → W p l e R s m args below meth c H1 (locs ++ [⟨a, j⟩]) cells slots Q (F0 m (pc + 1) ls rest)) : W p l e R s m args below meth c H locs cells slots Q (F0 m pc ls (.int x :: .int i :: .ref a :: rest)) := by
  refine W.iast hx hb hat (hA n (fun j => .int (f j))) (fun q => by cases q) (by show ¬ (i < 0 ∨ (arrV _ _ _).slots.size ≤ _); rw [arrV_size]; exact hin) rfl rfl hdg fun H1 e1 z oq => ?_
  refine kk H1 _ ?_ z oq
  rw [e1, vp_cell_i, vp_cell_i, arrV_store]
  congr 2
  funext q
  by_cases hq : q = i.toNatClampNeg
  · subst hq
    simp [updV, zk_up]
  · simp [updV, zk_up, hq]
theorem zw_zast (hx : p.tables.exec = Jvm.exec) (hb : c.code = cc) {a n : Nat} {cA : ClassId} {f : Nat → Int32} (hat : H[a]? = some (vp_cell cA (n, .inl f))) (hA : ArrOfT s cA .boolean) {i x : Int32} (hin : vp_in i n) (hn : narrow .boolean (.int x) = .int x) (hdg : decode cc pc = .ok (.bastore, 1))
    (kk : ∀ (H1 : Heap) (j : Nat), H1[a]? = some (vp_cell cA (n, .inl (zk_up f i.toNatClampNeg x))) → H1.size = H.size → (∀ q, q ≠ a → H1[q]? = H[q]?) → W p l e R s m args below meth c H1 (locs ++ [⟨a, j⟩]) cells slots Q (F0 m (pc + 1) ls rest)) : W p l e R s m args below meth c H locs cells slots Q (F0 m pc ls (.int x :: .int i :: .ref a :: rest)) := by
  refine W.zast hx hb hat (hA n (fun j => .int (f j))) (fun q => by cases q) (by show ¬ (i < 0 ∨ (arrV _ _ _).slots.size ≤ _); rw [arrV_size]; exact hin) rfl rfl hdg fun H1 e1 z oq => ?_
  refine kk H1 _ ?_ z oq
  rw [e1, hn, vp_cell_i, vp_cell_i, arrV_store]
  congr 2
  funext q
  by_cases hq : q = i.toNatClampNeg
  · subst hq
    simp [updV, zk_up]
  · simp [updV, zk_up, hq]
theorem zw_last (hx : p.tables.exec = Jvm.exec) (hb : c.code = cc) {a n : Nat} {cA : ClassId} {f : Nat → Int64} (hat : H[a]? = some (vp_cell cA (n, .inr (.inl f)))) (hA : ArrOfT s cA .long) {i : Int32} {x : Int64} (hin : vp_in i n) (hdg : decode cc pc = .ok (.lastore, 1))
    (kk : ∀ (H1 : Heap) (j : Nat), H1[a]? = some (vp_cell cA (n, .inr (.inl (zk_up f i.toNatClampNeg x)))) → H1.size = H.size → (∀ q, q ≠ a → H1[q]? = H[q]?) → W p l e R s m args below meth c H1 (locs ++ [⟨a, j⟩]) cells slots Q (F0 m (pc + 1) ls rest)) : W p l e R s m args below meth c H locs cells slots Q (F0 m pc ls (.long x :: .int i :: .ref a :: rest)) := by
  refine W.last hx hb hat (hA n (fun j => .long (f j))) (fun q => by cases q) (by show ¬ (i < 0 ∨ (arrV _ _ _).slots.size ≤ _); rw [arrV_size]; exact hin) rfl rfl hdg fun H1 e1 z oq => ?_
  refine kk H1 _ ?_ z oq
  rw [e1, vp_cell_l, vp_cell_l, arrV_store]
  congr 2
  funext q
  by_cases hq : q = i.toNatClampNeg
  · subst hq
    simp [updV, zk_up]
  · simp [updV, zk_up, hq]
/-- a reference to an object of just the array's class, or null, is stored -/
theorem zw_aast (hx : p.tables.exec = Jvm.exec) (hb : c.code = cc) (hK : va_K w.2.2.1 w.2.1 [] s) {a n ci : Nat} {cA : ClassId} {r : vw_C} {f : Nat → Option Nat} (hc : w.2.1[ci]? = some r) (hat : H[a]? = some (vp_cell cA (n, .inr (.inr (.inr (.inr f)))))) (hA : ArrOfT s cA (.object r.1)) (hRA : va_RA s cA (.object r.1)) {i : Int32} (hin : vp_in i n) {o : Option Nat} (hv : ∀ v, o = some v → ∃ vs, va_at w.2.2.1 w.2.1 (v, .inr (ci, vs)) H) (hdg : decode cc pc = .ok (.aastore, 1))
    (kk : ∀ (H1 : Heap) (j : Nat), H1[a]? = some (vp_cell cA (n, .inr (.inr (.inr (.inr (zk_up f i.toNatClampNeg o)))))) → H1.size = H.size → (∀ q, q ≠ a → H1[q]? = H[q]?) → W p l e R s m args below meth c H1 (locs ++ [⟨a, j⟩]) cells slots Q (F0 m (pc + 1) ls rest)) : W p l e R s m args below meth c H locs cells slots Q (F0 m pc ls (va_rf o :: .int i :: .ref a :: rest)) := by
  have hlt : i.toNatClampNeg < n := Nat.not_le.mp fun q => hin (Or.inr q)
  have h0 : ¬ i < 0 := fun q => hin (Or.inl q)
  have fin : ∀ H1 : Heap, H1[a]? = some ((vp_cell cA (n, .inr (.inr (.inr (.inr f))))).setSlot i.toNatClampNeg (va_rf o)) → H1[a]? = some (vp_cell cA (n, .inr (.inr (.inr (.inr (zk_up f i.toNatClampNeg o)))))) := by
    intro H1 e1
    rw [e1, vp_cell_q, vp_cell_q, arrV_store]
    congr 2
    funext q
    by_cases hq : q = i.toNatClampNeg
    · subst hq
      simp [updV, zk_up]
    · simp [updV, zk_up, hq]
  cases o with
  | none => exact va_WaastN (C := r.1) hx hb hat (hA n (fun j => va_rf (f j))) (fun h => by cases h) (by show ¬ (i < 0 ∨ (arrV _ _ _).slots.size ≤ _); rw [arrV_size]; exact hin) rfl rfl hdg fun H1 e1 z oq => kk H1 _ (fin H1 e1) z oq
  | some v =>
    obtain ⟨vs, r', hr', cellV, g1, g2, g3, -⟩ := hv v rfl
    have hcls := (hK.1 ci r hc).2
    obtain ⟨kA, comp, k1, k2, k3, -⟩ := hRA
    have hcomp : comp = w.2.2.1.1 ci := Option.some.inj (k3.symm.trans hcls.1)
    subst hcomp
    obtain ⟨kC, hkC, -⟩ := hcls.2
    exact W.aast hx hb hat (fun q h => by cases h) (fun h => by cases h) k1 k2 rfl hkC ⟨h0, by show _ < (arrV _ _ _).slots.size; rw [arrV_size]; exact hlt⟩ g1 (fun q h => by rw [g3] at h; cases h) (by rw [g2]; exact hkC) (by rw [g2]; exact va_assign hcls) rfl rfl hdg fun H1 e1 z oq => kk H1 _ (fin H1 e1) z oq
/-- .. its length -/
theorem zw_alen (hx : p.tables.exec = Jvm.exec) (hb : c.code = cc) {a : Nat} {cA : ClassId} {x : vp_A} {ty : FieldType} (hat : H[a]? = some (vp_cell cA x)) (hA : ArrOfT s cA ty) (hdg : decode cc pc = .ok (.arraylength, 1))
    (kk : W p l e R s m args below meth c H locs cells slots Q (F0 m (pc + 1) ls (.int (Int32.ofNat x.1) :: rest))) : W p l e R s m args below meth c H locs cells slots Q (F0 m pc ls (.ref a :: rest)) := by
  obtain ⟨n, f | f | f | f | f⟩ := x
  · exact W.alen (n := Int32.ofNat n) hx hb hat (hA n (fun j => .int (f j))) (by rw [vp_cell_i, arrV_size] <;> rfl) rfl rfl hdg kk
  · exact W.alen (n := Int32.ofNat n) hx hb hat (hA n (fun j => .long (f j))) (by rw [vp_cell_l, arrV_size] <;> rfl) rfl rfl hdg kk
  · exact W.alen (n := Int32.ofNat n) hx hb hat (hA n (fun j => .float (f j))) (by rw [vp_cell_f, arrV_size] <;> rfl) rfl rfl hdg kk
  · exact W.alen (n := Int32.ofNat n) hx hb hat (hA n (fun j => .double (f j))) (by rw [vp_cell_d, arrV_size] <;> rfl) rfl rfl hdg kk
  · exact W.alen (n := Int32.ofNat n) hx hb hat (hA n (fun j => va_rf (f j))) (by rw [vp_cell_q, arrV_size] <;> rfl) rfl rfl hdg kk
/-- a new array of numbers -/
theorem zw_newa (hx : p.tables.exec = Jvm.exec) (hb : c.code = cc) {atype : ArrayType} {ty : FieldType} (hty : newarray.typeOf atype = ty) (harr : (Jvm.Cond.arrayClass ty).before args s = true) {n : Int32} {N : Nat} {a0 : vp_A} (ha : ∀ cA : ClassId, vp_cell cA a0 = arrV cA N (fun _ => defaultValue ty)) (hn : ¬ n < 0) (hN : n.toNatClampNeg = N) (hbytes : N * componentBytes ty ≤ 536870912) (hcells : cells + 1 ≤ R.cells) (hslots : slots + N ≤ R.slots) (hdg : decode cc pc = .ok (.newarray atype, 2))
    (kk : ∀ (H1 : Heap) (cA : ClassId), H1[H.size]? = some (vp_cell cA a0) → H1.size = H.size + 1 → (∀ q, q < H.size → H1[q]? = H[q]?) → ArrOfT s cA ty → W p l e R s m args below meth c H1 locs (cells + 1) (slots + N) Q (F0 m (pc + 2) ls (.ref H.size :: rest))) : W p l e R s m args below meth c H locs cells slots Q (F0 m pc ls (.int n :: rest)) := by
  subst hty
  exact va_newaK hx hb harr rfl hdg rfl hn hN hbytes hcells hslots rfl fun H1 cA e1 z1 o1 hAr _ => kk H1 cA (by rw [ha]; exact e1) z1 o1 hAr
/-- a new array of references -/
theorem zw_newq (hx : p.tables.exec = Jvm.exec) (hb : c.code = cc) {C : String} {idx : Nat} (hown : s.vm.findClass own = some m.cls) (hclk : (Jvm.Cond.classLink own idx C).before args s = true) (hover : (Jvm.Cond.arrayOver (.object C)).before args s = true) {n : Int32} {N : Nat} (hn : ¬ n < 0) (hN : n.toNatClampNeg = N) (hbytes : N * 4 ≤ 536870912) (hcells : cells + 1 ≤ R.cells) (hslots : slots + N ≤ R.slots) (hdg : decode cc pc = .ok (.anewarray idx, 3))
    (kk : ∀ (H1 : Heap) (cA : ClassId), H1[H.size]? = some (vp_cell cA (N, .inr (.inr (.inr (.inr (fun _ => none)))))) → H1.size = H.size + 1 → (∀ q, q < H.size → H1[q]? = H[q]?) → ArrOfT s cA (.object C) → va_RA s cA (.object C) → W p l e R s m args below meth c H1 locs (cells + 1) (slots + N) Q (F0 m (pc + 3) ls (.ref H.size :: rest))) : W p l e R s m args below meth c H locs cells slots Q (F0 m pc ls (.int n :: rest)) := by
  subst hN
  refine W.anew hx hb hown hclk hover rfl hdg rfl hn hbytes hcells hslots fun cA kA comp f1 f2 f3 f4 => ?_
  refine kk _ cA ?_ ?_ ?_ ?_ ⟨kA, comp, f2, f3, f4, f1⟩
  · rw [vp_cell_q, Array.getElem?_push_size]
    exact congrArg some (arrV_new cA n.toNatClampNeg .null)
  · rw [Array.size_push]
  · intro q hq
    rw [Array.getElem?_push, if_neg (Nat.ne_of_lt hq)]
  · exact fun N z => ⟨(fun k h => by cases h), kA, f2, comp, f3⟩
end ZKH
end
section
/-! part 6: bounds of what arithmetic gives -/
def zk_m31 : Int := -2147483648
def zk_p31 : Int := 2147483647
def zk_clip (a b : Int) : Int × Int := if zk_m31 ≤ a ∧ b ≤ zk_p31 then (a, b) else (zk_m31, zk_p31)
theorem zk_clip_in {a b n : Int} (h1 : a ≤ n) (h2 : n ≤ b) {v : Int32} (hv : zk_rg 0 n → v.toInt = n) : (zk_clip a b).1 ≤ v.toInt ∧ v.toInt ≤ (zk_clip a b).2 := by
  unfold zk_clip
  have hv1 := (zk_to32 v).1
  split
  · rename_i h
    have e := hv ⟨by have := h.1; unfold zk_m31 at this; omega, by have := h.2; unfold zk_p31 at this; omega⟩
    rw [e]
    exact ⟨h1, h2⟩
  · exact ⟨hv1.1, hv1.2⟩
def zk_bnJ (o : Nat) (la ha lb hb : Int) : Int × Int := match o with
  | 0 => zk_clip (la + lb) (ha + hb)
  | 1 => zk_clip (la - hb) (ha - lb)
  | 2 => if 0 ≤ la ∧ 0 ≤ lb then zk_clip (la * lb) (ha * hb) else (zk_m31, zk_p31)
  | 3 => if 0 ≤ lb then (0, hb) else if 0 ≤ la then (0, ha) else (zk_m31, zk_p31)
  | 9 => if 0 ≤ la ∧ 1 ≤ lb then (0, ha) else (zk_m31, zk_p31)
  | 10 => if 0 ≤ la ∧ 1 ≤ lb then (0, hb - 1) else (zk_m31, zk_p31)
  | _ => (zk_m31, zk_p31)
theorem zk_full (v : Int32) : zk_m31 ≤ v.toInt ∧ v.toInt ≤ zk_p31 := (zk_to32 v).1
theorem zk_and_le (x y : Int32) (h : 0 ≤ y.toInt) : 0 ≤ (x &&& y).toInt ∧ (x &&& y).toInt ≤ y.toInt := by
  have hy : y.toInt = (y.toBitVec.toNat : Int) ∧ y.toBitVec.toNat < 2147483648 := by
    have h1 := BitVec.toInt_eq_toNat_cond y.toBitVec
    rw [Int32.toInt_toBitVec] at h1
    have h2 := y.toBitVec.isLt
    split at h1 <;> omega
  have hle : (x &&& y).toBitVec.toNat ≤ y.toBitVec.toNat := by
    rw [Int32.toBitVec_and, BitVec.toNat_and]
    exact Nat.and_le_right
  have h3 := BitVec.toInt_eq_toNat_of_lt (x := (x &&& y).toBitVec) (by omega)
  rw [Int32.toInt_toBitVec] at h3
  omega
theorem zk_nat32 {a : Int} (h : 0 ≤ a) : Int32.ofInt a = nI a.toNat := by
  unfold nI
  obtain ⟨k, rfl⟩ := Int.eq_ofNat_of_zero_le h
  rfl
theorem zk_bnJ_in {o : Nat} {a b la ha lb hb : Int} (hra : zk_rg 0 a) (hrb : zk_rg 0 b) (h1 : la ≤ a) (h2 : a ≤ ha) (h3 : lb ≤ b) (h4 : b ≤ hb) :
    (zk_bnJ o la ha lb hb).1 ≤ (zk_bn o (Int32.ofInt a) (Int32.ofInt b)).toInt ∧ (zk_bn o (Int32.ofInt a) (Int32.ofInt b)).toInt ≤ (zk_bnJ o la ha lb hb).2 := by
  have ea := zk_i32 hra
  have eb := zk_i32 hrb
  obtain ⟨ra1, ra2⟩ := hra
  obtain ⟨rb1, rb2⟩ := hrb
  unfold zk_bnJ
  split
  · refine zk_clip_in (n := a + b) (by omega) (by omega) (fun hr => ?_)
    show (Int32.ofInt a + Int32.ofInt b).toInt = _
    rw [← Int32.ofInt_add]
    exact zk_i32 hr
  · refine zk_clip_in (n := a - b) (by omega) (by omega) (fun hr => ?_)
    show (Int32.ofInt a - Int32.ofInt b).toInt = _
    rw [← Int32.ofInt_sub]
    exact zk_i32 hr
  · split
    · rename_i h
      refine zk_clip_in (n := a * b) (Int.mul_le_mul h1 h3 h.2 (by omega)) (Int.mul_le_mul h2 h4 (by omega) (by omega)) (fun hr => ?_)
      show (Int32.ofInt a * Int32.ofInt b).toInt = _
      rw [← Int32.ofInt_mul]
      exact zk_i32 hr
    · exact zk_full _
  · split
    · have h := zk_and_le (Int32.ofInt a) (Int32.ofInt b) (by rw [eb]; omega)
      rw [eb] at h
      exact ⟨h.1, by show (Int32.ofInt a &&& Int32.ofInt b).toInt ≤ hb; omega⟩
    · split
      · have h := zk_and_le (Int32.ofInt b) (Int32.ofInt a) (by rw [ea]; omega)
        rw [ea] at h
        have e : Int32.ofInt a &&& Int32.ofInt b = Int32.ofInt b &&& Int32.ofInt a := Int32.and_comm _ _
        show (0 : Int) ≤ (Int32.ofInt a &&& Int32.ofInt b).toInt ∧ (Int32.ofInt a &&& Int32.ofInt b).toInt ≤ ha
        rw [e]
        exact ⟨h.1, by omega⟩
      · exact zk_full _
  · split
    · rename_i h
      show (0 : Int) ≤ (Int32.ofInt a / Int32.ofInt b).toInt ∧ (Int32.ofInt a / Int32.ofInt b).toInt ≤ ha
      rw [zk_nat32 (a := a) (by omega), zk_nat32 (a := b) (by omega), pk_div (by omega) (by omega) (by omega)]
      have hd : a.toNat / b.toNat ≤ a.toNat := Nat.div_le_self _ _
      generalize a.toNat / b.toNat = z at hd ⊢
      rw [nI_toInt (by omega)]
      omega
    · exact zk_full _
  · split
    · rename_i h
      show (0 : Int) ≤ (Int32.ofInt a - Int32.ofInt a / Int32.ofInt b * Int32.ofInt b).toInt ∧ (Int32.ofInt a - Int32.ofInt a / Int32.ofInt b * Int32.ofInt b).toInt ≤ hb - 1
      rw [zk_nat32 (a := a) (by omega), zk_nat32 (a := b) (by omega), pk_rem (by omega) (by omega) (by omega)]
      have hd : a.toNat % b.toNat < b.toNat := Nat.mod_lt _ (by omega)
      generalize a.toNat % b.toNat = z at hd ⊢
      rw [nI_toInt (by omega)]
      omega
    · exact zk_full _
  · exact zk_full _
/-- of two numbers that are known: what it gives -/
def zk_bnI (o : Nat) (la ha lb hb : Int) : Int × Int := if la = ha ∧ lb = hb ∧ 2 ≤ o then ((zk_bn o (Int32.ofInt la) (Int32.ofInt lb)).toInt, (zk_bn o (Int32.ofInt la) (Int32.ofInt lb)).toInt) else zk_bnJ o la ha lb hb
theorem zk_bn_in {o : Nat} {a b la ha lb hb : Int} (hra : zk_rg 0 a) (hrb : zk_rg 0 b) (h1 : la ≤ a) (h2 : a ≤ ha) (h3 : lb ≤ b) (h4 : b ≤ hb) :
    (zk_bnI o la ha lb hb).1 ≤ (zk_bn o (Int32.ofInt a) (Int32.ofInt b)).toInt ∧ (zk_bn o (Int32.ofInt a) (Int32.ofInt b)).toInt ≤ (zk_bnI o la ha lb hb).2 := by
  unfold zk_bnI
  split
  · rename_i hc
    have e1 : a = la := by omega
    have e2 : b = lb := by omega
    rw [e1, e2]
    exact ⟨Int.le_refl _, Int.le_refl _⟩
  · exact zk_bnJ_in hra hrb h1 h2 h3 h4
def zk_m63 : Int := -9223372036854775808
def zk_p63 : Int := 9223372036854775807
def zk_clip2 (a b : Int) : Int × Int := if zk_m63 ≤ a ∧ b ≤ zk_p63 then (a, b) else (zk_m63, zk_p63)
theorem zk_clip2_in {a b n : Int} (h1 : a ≤ n) (h2 : n ≤ b) {v : Int64} (hv : zk_rg 1 n → v.toInt = n) : (zk_clip2 a b).1 ≤ v.toInt ∧ v.toInt ≤ (zk_clip2 a b).2 := by
  unfold zk_clip2
  have hv1 := (zk_to64 v).1
  split
  · rename_i h
    have e := hv ⟨by have := h.1; unfold zk_m63 at this; omega, by have := h.2; unfold zk_p63 at this; omega⟩
    rw [e]
    exact ⟨h1, h2⟩
  · exact ⟨hv1.1, hv1.2⟩
def zk_lbI (o : Nat) (la ha lb hb : Int) : Int × Int := match o with
  | 0 => zk_clip2 (la + lb) (ha + hb)
  | 1 => zk_clip2 (la - hb) (ha - lb)
  | _ => (zk_m63, zk_p63)
theorem zk_lb_in {o : Nat} {a b la ha lb hb : Int} (h1 : la ≤ a) (h2 : a ≤ ha) (h3 : lb ≤ b) (h4 : b ≤ hb) :
    (zk_lbI o la ha lb hb).1 ≤ (zk_lb o (Int64.ofInt a) (Int64.ofInt b)).toInt ∧ (zk_lb o (Int64.ofInt a) (Int64.ofInt b)).toInt ≤ (zk_lbI o la ha lb hb).2 := by
  unfold zk_lbI
  split
  · refine zk_clip2_in (n := a + b) (by omega) (by omega) (fun hr => ?_)
    show (Int64.ofInt a + Int64.ofInt b).toInt = _
    rw [← Int64.ofInt_add]
    exact zk_i64 hr
  · refine zk_clip2_in (n := a - b) (by omega) (by omega) (fun hr => ?_)
    show (Int64.ofInt a - Int64.ofInt b).toInt = _
    rw [← Int64.ofInt_sub]
    exact zk_i64 hr
  · have hv1 := (zk_to64 (zk_lb o (Int64.ofInt a) (Int64.ofInt b))).1
    exact ⟨hv1.1, hv1.2⟩
def zk_unI (o : Nat) (la ha : Int) : Int × Int := match o with
  | 0 => zk_clip (-ha) (-la)
  | 1 => (-128, 127)
  | 2 => (0, 65535)
  | _ => (-32768, 32767)
theorem zk_un_in {o : Nat} {a la ha : Int} (hra : zk_rg 0 a) (h1 : la ≤ a) (h2 : a ≤ ha) : (zk_unI o la ha).1 ≤ (zk_un o (Int32.ofInt a)).toInt ∧ (zk_un o (Int32.ofInt a)).toInt ≤ (zk_unI o la ha).2 := by
  unfold zk_unI
  split
  · refine zk_clip_in (n := -a) (by omega) (by omega) (fun hr => ?_)
    show (-Int32.ofInt a).toInt = _
    rw [← Int32.ofInt_neg]
    exact zk_i32 hr
  · show (-128 : Int) ≤ (Int32.ofInt a).toInt8.toInt32.toInt ∧ (Int32.ofInt a).toInt8.toInt32.toInt ≤ 127
    rw [Int8.toInt_toInt32]
    have h3 := Int8.le_toInt (Int32.ofInt a).toInt8
    have h4 := Int8.toInt_lt (Int32.ofInt a).toInt8
    omega
  · show (0 : Int) ≤ ((Int32.ofInt a).toUInt32 % 65536).toInt32.toInt ∧ ((Int32.ofInt a).toUInt32 % 65536).toInt32.toInt ≤ 65535
    rw [lg_i2c_nf, lg_i2c_toInt]
    omega
  · rename_i h8 h9
    match o, h8, h9 with
    | o + 3, _, _ =>
      show (-32768 : Int) ≤ (Int32.ofInt a).toInt16.toInt32.toInt ∧ (Int32.ofInt a).toInt16.toInt32.toInt ≤ 32767
      rw [Int16.toInt_toInt32]
      have h3 := Int16.le_toInt (Int32.ofInt a).toInt16
      have h4 := Int16.toInt_lt (Int32.ofInt a).toInt16
      omega
end
section
/-! part 7: steps on locals and numbers -/
def zk_J (p : Program) (l : Launch) (e : Env) (R : Room) (s : State) (m : MethodId) (args : Array Value) (below : List Frame) (meth : Method) (c : Code) (Q : State → Prop) (w : zk_W) (u : zk_M) (κ : zk_C) (st : List zk_S) (cu su pc : Nat) : Prop :=
  ∀ (N : List Int) (P : Nat → Option Nat) (F : Nat → va_E) (H : Heap) (locs : List Loc) (ls : Array Slot) (sv : List Value), zk_G w s u κ N P F H locs ls → zk_all2 (zk_sv κ.1 N) st sv → W p l e R s m args below meth c H locs cu su Q (F0 m pc ls sv)
abbrev zk_O : Type := Nat × zk_C × List zk_S × Nat × Nat
def zk_kok (k kd : Nat) : Bool := if k < 2 then kd == k else decide (2 ≤ kd) && decide (kd < 99)
def zk_cat (V : List zk_F) (q : zk_S) : Nat := if zk_kd V q = 1 then 2 else 1
/-- the result of two ints -/
def zk_bnR (V : List zk_F) (o : Nat) (x y : zk_S) : List zk_F × zk_S :=
  if o = 0 ∧ y.1 = 0 ∧ zk_m31 ≤ zk_lw V x + y.2 ∧ zk_hg V x + y.2 ≤ zk_p31 then (V, (x.1, x.2 + y.2))
  else if o = 0 ∧ x.1 = 0 ∧ zk_m31 ≤ zk_lw V y + x.2 ∧ zk_hg V y + x.2 ≤ zk_p31 then (V, (y.1, y.2 + x.2))
  else if o = 1 ∧ y.1 = 0 ∧ zk_m31 ≤ zk_lw V x - y.2 ∧ zk_hg V x - y.2 ≤ zk_p31 then (V, (x.1, x.2 - y.2))
  else if o = 0 ∧ zk_lw V y = zk_hg V y ∧ zk_m31 ≤ zk_lw V x + zk_lw V y ∧ zk_hg V x + zk_lw V y ≤ zk_p31 then (V, (x.1, x.2 + zk_lw V y))
  else if o = 0 ∧ zk_lw V x = zk_hg V x ∧ zk_m31 ≤ zk_lw V y + zk_lw V x ∧ zk_hg V y + zk_lw V x ≤ zk_p31 then (V, (y.1, y.2 + zk_lw V x))
  else if o = 1 ∧ zk_lw V y = zk_hg V y ∧ zk_m31 ≤ zk_lw V x - zk_lw V y ∧ zk_hg V x - zk_lw V y ≤ zk_p31 then (V, (x.1, x.2 - zk_lw V y))
  else (V ++ [(0, 0, zk_bnI o (zk_lw V x) (zk_hg V x) (zk_lw V y) (zk_hg V y))], (V.length, 0))
/-- the result of two longs -/
def zk_lbR (V : List zk_F) (o : Nat) (x y : zk_S) : List zk_F × zk_S :=
  if o = 0 ∧ y.1 = 1 ∧ V[1]? = some (1, 0, 0, 0) ∧ zk_m63 ≤ zk_lw V x + y.2 ∧ zk_hg V x + y.2 ≤ zk_p63 then (V, (x.1, x.2 + y.2))
  else if o = 1 ∧ y.1 = 1 ∧ V[1]? = some (1, 0, 0, 0) ∧ zk_m63 ≤ zk_lw V x - y.2 ∧ zk_hg V x - y.2 ≤ zk_p63 then (V, (x.1, x.2 - y.2))
  else (V ++ [(1, 0, zk_lbI o (zk_lw V x) (zk_hg V x) (zk_lw V y) (zk_hg V y))], (V.length, 0))
def zk_ckb (k n nL : Nat) : Bool := if k = 1 then decide (n + 1 < nL) else decide (n < nL)
theorem zk_ckb_ok {k n nL : Nat} (h : zk_ckb k n nL = true) : zk_ck k n nL := by
  unfold zk_ckb at h
  unfold zk_ck
  split
  · rename_i e
    rw [if_pos e] at h
    exact of_decide_eq_true h
  · rename_i e
    rw [if_neg e] at h
    exact of_decide_eq_true h
def zk_cv (k : Nat) (n : Int) : Int := if k = 2 then 0 else n
def zk_cb (k : Nat) : Int := if k = 2 then -1 else 0
def zk_s1 (nL : Nat) (i : ClassFile.Instr) (len pc : Nat) (κ : zk_C) (st : List zk_S) (cu su : Nat) : Option zk_O :=
  match zk_ldK i with
  | some (k, n, ln) => match κ.2.2.2.2.1.find? (fun q => q.1 == n) with
    | some q => if ln = len ∧ zk_kok k (zk_kd κ.1 q.2) = true then some (pc + len, κ, q.2 :: st, cu, su) else none
    | none => none
  | none => match zk_stK i with
    | some (k, n, ln) => match st with
      | q :: st' => if ln = len ∧ zk_kok k (zk_kd κ.1 q) = true ∧ zk_ckb k n nL = true then some (pc + len, (κ.1, κ.2.1, κ.2.2.1, κ.2.2.2.1, (n, q) :: κ.2.2.2.2.1.filter (fun r => zk_st1 k n r.1 (zk_cat κ.1 r.2)), κ.2.2.2.2.2), st', cu, su) else none
      | [] => none
    | none => match zk_cnK i with
      | some (k, n, ln) => if ln = len ∧ κ.1[k]? = some (k, 0, zk_cb k, zk_cb k) ∧ k ≤ 2 ∧ (k < 2 → zk_m31 ≤ n ∧ n ≤ zk_p31) ∧ (k = 2 → n = -1) then some (pc + len, κ, (k, zk_cv k n) :: st, cu, su) else none
      | none => match zk_bnK i with
        | some o => match st with
          | y :: x :: st' => if len = 1 ∧ zk_kd κ.1 x = 0 ∧ zk_kd κ.1 y = 0 ∧ κ.1[0]? = some (0, 0, 0, 0) ∧ (9 ≤ o → 1 ≤ zk_lw κ.1 y ∨ zk_hg κ.1 y ≤ -1) then some (pc + 1, ((zk_bnR κ.1 o x y).1, κ.2), (zk_bnR κ.1 o x y).2 :: st', cu, su) else none
          | _ => none
        | none => match zk_unK i with
          | some o => match st with
            | x :: st' => if len = 1 ∧ zk_kd κ.1 x = 0 then some (pc + 1, (κ.1 ++ [(0, 0, zk_unI o (zk_lw κ.1 x) (zk_hg κ.1 x))], κ.2), (κ.1.length, 0) :: st', cu, su) else none
            | _ => none
          | none => match zk_lbK i with
            | some o => match st with
              | y :: x :: st' => if len = 1 ∧ zk_kd κ.1 x = 1 ∧ zk_kd κ.1 y = 1 ∧ (9 ≤ o → 1 ≤ zk_lw κ.1 y ∨ zk_hg κ.1 y ≤ -1) then some (pc + 1, ((zk_lbR κ.1 o x y).1, κ.2), (zk_lbR κ.1 o x y).2 :: st', cu, su) else none
              | _ => none
            | none => none
section ZK7
variable {p : Program} {l : Launch} {e : Env} {R : Room} {s : State} {m : MethodId} {args : Array Value} {below : List Frame} {meth : Method} {c : Code} {Q : State → Prop}
variable {cc : ByteArray} {w : zk_W} {u : zk_M} {Ts : List Jvm.Cond} {own : String}
theorem zk_ld_ok {V : List zk_F} {N : List Int} {ls : Array Slot} {nL : Nat} {L : List (Nat × zk_S)} (h : zk_lo V N ls nL L) {q : Nat × zk_S} (hq : q ∈ L) : ∃ v, ls[q.1]? = some (.val v) ∧ zk_sv V N q.2 v := by
  obtain ⟨lv, h1, h2⟩ := h
  obtain ⟨i, hi⟩ := List.getElem?_of_mem hq
  obtain ⟨r, e1, e2, e3⟩ := zk_all2_get h2 hi
  exact ⟨r.2, by rw [e2]; exact h1.2.2 r (List.mem_of_getElem? e1), e3⟩
theorem zk_kok_v {P : Nat → Option Nat} {V : List zk_F} {N : List Int} (h : zk_all2 (zk_ok P) V N) {k : Nat} {q : zk_S} {v : Value} (hv : zk_sv V N q v) (hk : zk_kok k (zk_kd V q) = true) : zk_vk k v := by
  match k with
  | 0 =>
    obtain ⟨n, e, -⟩ := hv.int h (by simpa [zk_kok] using hk)
    exact ⟨_, e⟩
  | 1 =>
    obtain ⟨n, e, -⟩ := hv.long h (by simpa [zk_kok] using hk)
    exact ⟨_, e⟩
  | k + 2 =>
    have e9 : ¬ k + 2 < 2 := by omega
    have h2 : 2 ≤ zk_kd V q ∧ zk_kd V q < 99 := by simpa [zk_kok, e9] using hk
    exact (hv.ref h2.1 h2.2).1
theorem zk_const_ok {P : Nat → Option Nat} {V : List zk_F} {N : List Int} (h : zk_all2 (zk_ok P) V N) {k : Nat} {n : Int} (hk : V[k]? = some (k, 0, zk_cb k, zk_cb k)) (hk2 : k ≤ 2) (hr : k < 2 → zk_m31 ≤ n ∧ n ≤ zk_p31) (hn : k = 2 → n = -1) : zk_sv V N (k, zk_cv k n) (zk_mk k n) := by
  obtain ⟨i, e1, e2⟩ := zk_all2_get h hk
  unfold zk_m31 zk_p31 at hr
  unfold zk_cb at hk e2
  unfold zk_cv
  match k, hk2 with
  | 0, _ =>
    have h3 := (zk_ok.iv e2 (by decide))
    have hi : i = 0 := by have := h3.1; have := h3.2; simp at *; omega
    subst hi
    have := hr (by decide)
    exact ⟨_, 0, hk, e1, by simp [zk_rg]; omega, by simp⟩
  | 1, _ =>
    have h3 := (zk_ok.iv e2 (by decide))
    have hi : i = 0 := by have := h3.1; have := h3.2; simp at *; omega
    subst hi
    have := hr (by decide)
    exact ⟨_, 0, hk, e1, by simp [zk_rg]; omega, by simp⟩
  | 2, _ =>
    have h3 : (-1 : Int) ≤ i ∧ -1 ≤ i ∧ ((-1 : Int) < 0 → i < 0) ∧ _ := e2
    have hi : i = -1 := by have := h3.1; have := h3.2.2.1 (by decide); omega
    subst hi
    rw [hn rfl]
    exact ⟨_, -1, hk, e1, trivial, by simp⟩
theorem zk_c0 {P : Nat → Option Nat} {V : List zk_F} {N : List Int} (h : zk_all2 (zk_ok P) V N) (hk : V[0]? = some (0, 0, 0, 0)) : N[0]? = some 0 := by
  obtain ⟨i, e1, e2⟩ := zk_all2_get h hk
  have h3 := (zk_ok.iv e2 (by decide))
  have hi : i = 0 := by have := h3.1; have := h3.2; simp at *; omega
  rw [e1, hi]
theorem zk_fresh32 {P : Nat → Option Nat} {lo hi : Int} {v : Int32} (h : lo ≤ v.toInt ∧ v.toInt ≤ hi) : zk_ok P (0, 0, lo, hi) v.toInt ∧ Value.int v = zk_mk 0 v.toInt :=
  ⟨⟨h.1, h.2, (zk_to32 v).1⟩, congrArg Value.int (zk_to32 v).2⟩
theorem zk_fresh64 {P : Nat → Option Nat} {v : Int64} : zk_ok P (1, 0, -9223372036854775808, 9223372036854775807) v.toInt ∧ Value.long v = zk_mk 1 v.toInt :=
  ⟨⟨(zk_to64 v).1.1, (zk_to64 v).1.2, (zk_to64 v).1⟩, congrArg Value.long (zk_to64 v).2⟩
theorem zk_bnR_ok {P : Nat → Option Nat} {V : List zk_F} {N : List Int} (h : zk_all2 (zk_ok P) V N) (h0 : V[0]? = some (0, 0, 0, 0)) {o : Nat} {x y : zk_S} {vx vy : Value} (hx : zk_sv V N x vx) (hy : zk_sv V N y vy) (kx : zk_kd V x = 0) (ky : zk_kd V y = 0) :
    ∃ a b : Int, vx = .int (Int32.ofInt a) ∧ vy = .int (Int32.ofInt b) ∧ zk_rg 0 b ∧ zk_lw V y ≤ b ∧ b ≤ zk_hg V y ∧ ∃ N', zk_all2 (zk_ok P) (zk_bnR V o x y).1 N' ∧ zk_le V N (zk_bnR V o x y).1 N' ∧ zk_sv (zk_bnR V o x y).1 N' (zk_bnR V o x y).2 (.int (zk_bn o (Int32.ofInt a) (Int32.ofInt b))) := by
  obtain ⟨a, e1, ra, la, ha, ka, na, ea⟩ := hx.int h kx
  obtain ⟨b, e2, rb, lb, hb, kb, nb, eb⟩ := hy.int h ky
  refine ⟨a, b, e1, e2, rb, lb, hb, ?_⟩
  have n0 := zk_c0 h h0
  obtain ⟨fx, nx, x1, x2, x3, x4⟩ := hx
  obtain ⟨fy, ny, y1, y2, y3, y4⟩ := hy
  have kx' : fx.1 = 0 := by unfold zk_kd at kx; rw [x1] at kx; exact kx
  have ky' : fy.1 = 0 := by unfold zk_kd at ky; rw [y1] at ky; exact ky
  cases x2.symm.trans na
  cases y2.symm.trans nb
  unfold zk_bnR
  unfold zk_m31 zk_p31
  split
  · rename_i hc
    obtain ⟨rfl, c1, c2, c3⟩ := hc
    rw [c1, n0] at nb
    cases nb
    refine ⟨N, h, zk_le.rf, fx, ka, x1, x2, ?_, ?_⟩
    · rw [kx']; exact ⟨by dsimp only; omega, by dsimp only; omega⟩
    · rw [kx']
      show Value.int (Int32.ofInt a + Int32.ofInt b) = .int (Int32.ofInt (ka + (x.2 + y.2)))
      rw [← Int32.ofInt_add]
      congr 2
      omega
  · split
    · rename_i hc
      obtain ⟨rfl, c1, c2, c3⟩ := hc
      rw [c1, n0] at na
      cases na
      refine ⟨N, h, zk_le.rf, fy, kb, y1, y2, ?_, ?_⟩
      · rw [ky']; exact ⟨by dsimp only; omega, by dsimp only; omega⟩
      · rw [ky']
        show Value.int (Int32.ofInt a + Int32.ofInt b) = .int (Int32.ofInt (kb + (y.2 + x.2)))
        rw [← Int32.ofInt_add]
        congr 2
        omega
    · split
      · rename_i hc
        obtain ⟨rfl, c1, c2, c3⟩ := hc
        rw [c1, n0] at nb
        cases nb
        refine ⟨N, h, zk_le.rf, fx, ka, x1, x2, ?_, ?_⟩
        · rw [kx']; exact ⟨by dsimp only; omega, by dsimp only; omega⟩
        · rw [kx']
          show Value.int (Int32.ofInt a - Int32.ofInt b) = .int (Int32.ofInt (ka + (x.2 - y.2)))
          rw [← Int32.ofInt_sub]
          congr 2
          omega
      · split
        · rename_i hc
          obtain ⟨rfl, c1, c2, c3⟩ := hc
          have e9 : b = zk_lw V y := by omega
          refine ⟨N, h, zk_le.rf, fx, ka, x1, x2, ?_, ?_⟩
          · rw [kx']; exact ⟨by dsimp only; omega, by dsimp only; omega⟩
          · rw [kx']
            show Value.int (Int32.ofInt a + Int32.ofInt b) = .int (Int32.ofInt (ka + (x.2 + zk_lw V y)))
            rw [← Int32.ofInt_add]
            congr 2
            omega
        · split
          · rename_i hc
            obtain ⟨rfl, c1, c2, c3⟩ := hc
            have e9 : a = zk_lw V x := by omega
            refine ⟨N, h, zk_le.rf, fy, kb, y1, y2, ?_, ?_⟩
            · rw [ky']; exact ⟨by dsimp only; omega, by dsimp only; omega⟩
            · rw [ky']
              show Value.int (Int32.ofInt a + Int32.ofInt b) = .int (Int32.ofInt (kb + (y.2 + zk_lw V x)))
              rw [← Int32.ofInt_add]
              congr 2
              omega
          · split
            · rename_i hc
              obtain ⟨rfl, c1, c2, c3⟩ := hc
              have e9 : b = zk_lw V y := by omega
              refine ⟨N, h, zk_le.rf, fx, ka, x1, x2, ?_, ?_⟩
              · rw [kx']; exact ⟨by dsimp only; omega, by dsimp only; omega⟩
              · rw [kx']
                show Value.int (Int32.ofInt a - Int32.ofInt b) = .int (Int32.ofInt (ka + (x.2 - zk_lw V y)))
                rw [← Int32.ofInt_sub]
                congr 2
                omega
            · obtain ⟨f1, f2⟩ := zk_fresh32 (P := P) (zk_bn_in (o := o) ra rb la ha lb hb)
              refine ⟨N ++ [_], zk_all2_snoc f1 h, zk_le.snoc _ _, ?_⟩
              rw [f2]
              exact zk_sv_last h f1
theorem zk_fresh64r {P : Nat → Option Nat} {lo hi : Int} {v : Int64} (h : lo ≤ v.toInt ∧ v.toInt ≤ hi) : zk_ok P (1, 0, lo, hi) v.toInt ∧ Value.long v = zk_mk 1 v.toInt :=
  ⟨⟨h.1, h.2, (zk_to64 v).1⟩, congrArg Value.long (zk_to64 v).2⟩
theorem zk_c1 {P : Nat → Option Nat} {V : List zk_F} {N : List Int} (h : zk_all2 (zk_ok P) V N) (hk : V[1]? = some (1, 0, 0, 0)) : N[1]? = some 0 := by
  obtain ⟨n, e1, e2⟩ := zk_all2_get h hk
  have e2 : (0 : Int) ≤ n ∧ n ≤ 0 ∧ _ := e2
  rw [e1]
  congr 1
  omega
theorem zk_lbR_ok {P : Nat → Option Nat} {V : List zk_F} {N : List Int} (h : zk_all2 (zk_ok P) V N) {o : Nat} {x y : zk_S} {vx vy : Value} (hx : zk_sv V N x vx) (hy : zk_sv V N y vy) (kx : zk_kd V x = 1) (ky : zk_kd V y = 1) :
    ∃ a b : Int, vx = .long (Int64.ofInt a) ∧ vy = .long (Int64.ofInt b) ∧ zk_rg 1 b ∧ zk_lw V y ≤ b ∧ b ≤ zk_hg V y ∧ ∃ N', zk_all2 (zk_ok P) (zk_lbR V o x y).1 N' ∧ zk_le V N (zk_lbR V o x y).1 N' ∧ zk_sv (zk_lbR V o x y).1 N' (zk_lbR V o x y).2 (.long (zk_lb o (Int64.ofInt a) (Int64.ofInt b))) := by
  obtain ⟨a, e1, ra, la, ha, ka, na, ea⟩ := hx.long h kx
  obtain ⟨b, e2, rb, lb, hb, kb, nb, eb⟩ := hy.long h ky
  refine ⟨a, b, e1, e2, rb, lb, hb, ?_⟩
  obtain ⟨fx, nx, x1, x2, x3, x4⟩ := hx
  have kx' : fx.1 = 1 := by unfold zk_kd at kx; rw [x1] at kx; exact kx
  cases x2.symm.trans na
  unfold zk_lbR
  unfold zk_m63 zk_p63
  split
  · rename_i hc
    obtain ⟨rfl, c1, c0, c2, c3⟩ := hc
    rw [c1, zk_c1 h c0] at nb
    cases nb
    refine ⟨N, h, zk_le.rf, fx, ka, x1, x2, ?_, ?_⟩
    · rw [kx']; exact ⟨by dsimp only; omega, by dsimp only; omega⟩
    · rw [kx']
      show Value.long (Int64.ofInt a + Int64.ofInt b) = .long (Int64.ofInt (ka + (x.2 + y.2)))
      rw [← Int64.ofInt_add]
      congr 2
      omega
  · split
    · rename_i hc
      obtain ⟨rfl, c1, c0, c2, c3⟩ := hc
      rw [c1, zk_c1 h c0] at nb
      cases nb
      refine ⟨N, h, zk_le.rf, fx, ka, x1, x2, ?_, ?_⟩
      · rw [kx']; exact ⟨by dsimp only; omega, by dsimp only; omega⟩
      · rw [kx']
        show Value.long (Int64.ofInt a - Int64.ofInt b) = .long (Int64.ofInt (ka + (x.2 - y.2)))
        rw [← Int64.ofInt_sub]
        congr 2
        omega
    · obtain ⟨f1, f2⟩ := zk_fresh64r (P := P) (zk_lb_in (o := o) la ha lb hb)
      refine ⟨_, zk_all2_snoc f1 h, zk_le.snoc _ _, ?_⟩
      rw [f2]
      exact zk_sv_last h f1
/-- pushing what a variable holds -/
theorem zk_sv_mono {V V' : List zk_F} {N N' : List Int} {st : List zk_S} {sv : List Value} (hl : zk_le V N V' N') (h : zk_all2 (zk_sv V N) st sv) : zk_all2 (zk_sv V' N') st sv := zk_all2_imp (fun _ _ q => hl.2 _ _ q) h
theorem zk_s1_ok (hx : p.tables.exec = Jvm.exec) (hb : c.code = cc) {i : ClassFile.Instr} {len pc : Nat} {κ : zk_C} {st : List zk_S} {cu su : Nat} {o : zk_O} (hs : zk_s1 u.2.2.2.2.2.1 i len pc κ st cu su = some o) (hdg : decode cc pc = .ok (i, len)) (kk : zk_J p l e R s m args below meth c Q w u o.2.1 o.2.2.1 o.2.2.2.1 o.2.2.2.2 o.1) : zk_J p l e R s m args below meth c Q w u κ st cu su pc := by
  intro N P F H locs ls sv hG hS
  have hV := hG.1
  unfold zk_s1 at hs
  split at hs
  · rename_i k n ln hi
    split at hs
    · rename_i q hq
      split at hs
      · rename_i hc
        obtain ⟨rfl, hk⟩ := hc
        cases hs
        have hm := List.mem_of_find?_eq_some hq
        have hn : q.1 = n := by simpa using List.find?_some hq
        obtain ⟨v, e1, e2⟩ := zk_ld_ok hG.2.2.2.2.2.1 hm
        rw [hn] at e1
        exact zw_load hx hb hi hdg e1 (zk_kok_v hV e2 hk) (kk N P F H locs ls (v :: sv) hG ⟨e2, hS⟩)
      · cases hs
    · cases hs
  · split at hs
    · rename_i k n ln hi
      split at hs
      · rename_i q st'
        split at hs
        · rename_i hc
          obtain ⟨rfl, hk, hn⟩ := hc
          cases hs
          match sv, hS with
          | v :: sv', hS =>
            obtain ⟨g1, g2, g3, g4, g5, ⟨lv, g6, g7⟩, g8⟩ := hG
            refine zw_store hx hb hi hdg g6 (zk_ckb_ok hn) (zk_kok_v hV hS.1 hk) (fun ls' hl => kk N P F H locs ls' sv' ⟨g1, g2, g3, g4, g5, ⟨_, hl, ⟨rfl, hS.1⟩, zk_all2_filter (fun a b hab => ?_) g7⟩, g8⟩ hS.2)
            obtain ⟨h1, h2⟩ := hab
            rw [h1]
            unfold zk_cat
            rw [← h2.cat]
        · cases hs
      · cases hs
    · split at hs
      · rename_i k n ln hi
        split at hs
        · rename_i hc
          obtain ⟨rfl, h1, h2, h3, h4⟩ := hc
          cases hs
          exact zw_const hx hb hi hdg (kk N P F H locs ls _ hG ⟨zk_const_ok hV h1 h2 h3 h4, hS⟩)
        · cases hs
      · split at hs
        · rename_i o' hi
          split at hs
          · rename_i y x st'
            split at hs
            · rename_i hc
              obtain ⟨rfl, h1, h2, h3, h4⟩ := hc
              cases hs
              match sv, hS with
              | vy :: vx :: sv', hS =>
                obtain ⟨a, b, rfl, rfl, rb, lb, hb', N', n1, n2, n3⟩ := zk_bnR_ok (o := o') hV h3 hS.2.1 hS.1 h1 h2
                refine zw_bin hx hb hi hdg (fun h9 => ?_) (kk N' P F H locs ls _ (hG.le n2 n1) ⟨n3, zk_sv_mono n2 hS.2.2⟩)
                have h8 := h4 h9
                intro hz
                have e0 := zk_i32 rb
                rw [hz] at e0
                have : (0 : Int32).toInt = 0 := by decide
                omega
            · cases hs
          · cases hs
        · split at hs
          · rename_i o' hi
            split at hs
            · rename_i x st'
              split at hs
              · rename_i hc
                obtain ⟨rfl, h1⟩ := hc
                cases hs
                match sv, hS with
                | vx :: sv', hS =>
                  obtain ⟨a, rfl, ra, la, ha, -⟩ := hS.1.int hV h1
                  obtain ⟨f1, f2⟩ := zk_fresh32 (P := P) (zk_un_in (o := o') ra la ha)
                  refine zw_un hx hb hi hdg (kk _ P F H locs ls _ (hG.push f1) ⟨?_, zk_sv_mono (zk_le.snoc _ _) hS.2⟩)
                  rw [f2]
                  exact zk_sv_last hV f1
              · cases hs
            · cases hs
          · split at hs
            · rename_i o' hi
              split at hs
              · rename_i y x st'
                split at hs
                · rename_i hc
                  obtain ⟨rfl, h1, h2, h4⟩ := hc
                  cases hs
                  match sv, hS with
                  | vy :: vx :: sv', hS =>
                    obtain ⟨a, b, rfl, rfl, rb, lb, hb', N', g1, g2, g3⟩ := zk_lbR_ok (o := o') hV hS.2.1 hS.1 h1 h2
                    refine zw_lbin hx hb hi hdg (fun h9 => ?_) (kk _ P F H locs ls _ (hG.le g2 g1) ⟨g3, zk_sv_mono g2 hS.2.2⟩)
                    have h8 := h4 h9
                    intro hz
                    have e0 := zk_i64 rb
                    rw [hz] at e0
                    have : (0 : Int64).toInt = 0 := by decide
                    omega
                · cases hs
              · cases hs
            · cases hs
end ZK7
end
section
/-! part 8: what a comparison tells; branches, switches -/
/-- q's value is at most r's and d -/
def zk_asm1 (κ : zk_C) (q r : zk_S) (d : Int) : Option zk_C := match κ.1[q.1]?, κ.1[r.1]? with
  | some f, some g =>
    if q.1 = r.1 then (if q.2 ≤ r.2 + d then some κ else none)
    else if g.2.2.2 + r.2 + d - q.2 < f.2.2.1 then none
    else some ((κ.1.set q.1 (f.1, f.2.1, f.2.2.1, min f.2.2.2 (g.2.2.2 + r.2 + d - q.2))).set r.1 (g.1, g.2.1, max g.2.2.1 (f.2.2.1 + q.2 - d - r.2), g.2.2.2),
      (if 3 ≤ q.1 ∧ 3 ≤ r.1 then (q.1, r.1, r.2 + d - q.2) :: κ.2.1 else κ.2.1), κ.2.2)
  | _, _ => none
def zk_ol {α : Type} (o : Option α) : List α := match o with
  | some x => [x]
  | none => []
def zk_asm (κ : zk_C) (k : ClassFile.Cond) (q r : zk_S) (sp : Bool) : List zk_C := match k with
  | .eq => match zk_asm1 κ q r 0 with
    | some κ1 => zk_ol (zk_asm1 κ1 r q 0)
    | none => []
  | .ne => match zk_asm1 κ q r (-1), zk_asm1 κ r q (-1) with
    | some x, some y => if sp then [x, y] else [κ]
    | some x, none => [x]
    | none, some y => [y]
    | none, none => []
  | .lt => zk_ol (zk_asm1 κ q r (-1))
  | .ge => zk_ol (zk_asm1 κ r q 0)
  | .gt => zk_ol (zk_asm1 κ r q (-1))
  | .le => zk_ol (zk_asm1 κ q r 0)
def zk_neg (k : ClassFile.Cond) : ClassFile.Cond := match k with
  | .eq => .ne
  | .ne => .eq
  | .lt => .ge
  | .ge => .lt
  | .gt => .le
  | .le => .gt
theorem zk_neg_ok {k : ClassFile.Cond} {a b : Int} (h : ¬ zk_cmp k a b) : zk_cmp (zk_neg k) a b := by
  cases k <;> simp only [zk_cmp, zk_neg] at h ⊢ <;> omega
def zk_tgt (pc : Nat) (off : Int) : Option Nat := if 0 ≤ (pc : Int) + off then some ((pc : Int) + off).toNat else none
theorem zk_tgt_ok {pc t : Nat} {off : Int} (h : zk_tgt pc off = some t) : (pc : Int) + off = (t : Int) := by
  unfold zk_tgt at h
  split at h
  · cases h
    omega
  · cases h
/-- a reference that isn't null -/
def zk_nn (κ : zk_C) (x : zk_S) : Option zk_C := match κ.1[x.1]? with
  | some f => if f.1 = 2 then (if f.2.2.2 < 0 then none else some (κ.1.set x.1 (2, f.2.1, 0, f.2.2.2), κ.2)) else some κ
  | none => none
def zk_nu (κ : zk_C) (x : zk_S) : Option zk_C := match κ.1[x.1]? with
  | some f => if f.1 = 2 then (if 0 ≤ f.2.2.1 then none else some (κ.1.set x.1 (2, f.2.1, -1, -1), κ.2)) else none
  | none => none
def zk_ts (κ : zk_C) (x : zk_S) (st : List zk_S) (cu su pc : Nat) (k0 : Int) (t : Option Nat) : List zk_O := match t with
  | some t => (zk_asm κ .eq x (0, k0) false).map (fun κ' => (t, κ', st, cu, su))
  | none => []
def zk_s2 (sp : Bool) (nx : Option (ClassFile.Instr × Nat)) (i : ClassFile.Instr) (len pc : Nat) (κ : zk_C) (st : List zk_S) (cu su : Nat) : Option (List zk_O) := match i with
  | .goto off => match zk_tgt pc off with
    | some t => if len = 3 then some [(t, κ, st, cu, su)] else none
    | none => none
  | .if_icmp k off => match zk_tgt pc off, st with
    | some t, y :: x :: st' => if len = 3 ∧ zk_kd κ.1 x = 0 ∧ zk_kd κ.1 y = 0 then some ((zk_asm κ k x y sp).map (fun κ' => (t, κ', st', cu, su)) ++ (zk_asm κ (zk_neg k) x y sp).map (fun κ' => (pc + 3, κ', st', cu, su))) else none
    | _, _ => none
  | .ifCond k off => match zk_tgt pc off, st with
    | some t, x :: st' => if len = 3 ∧ zk_kd κ.1 x = 0 ∧ κ.1[0]? = some (0, 0, 0, 0) then some ((zk_asm κ k x (0, 0) sp).map (fun κ' => (t, κ', st', cu, su)) ++ (zk_asm κ (zk_neg k) x (0, 0) sp).map (fun κ' => (pc + 3, κ', st', cu, su))) else none
    | _, _ => none
  | .lcmp => match nx with
    | some (.ifCond k off, 3) => match zk_tgt (pc + 1) off, st with
      | some t, y :: x :: st' => if len = 1 ∧ zk_kd κ.1 x = 1 ∧ zk_kd κ.1 y = 1 then some ((zk_asm κ k x y sp).map (fun κ' => (t, κ', st', cu, su)) ++ (zk_asm κ (zk_neg k) x y sp).map (fun κ' => (pc + 4, κ', st', cu, su))) else none
      | _, _ => none
    | _ => none
  | .ifnonnull off => match zk_tgt pc off, st with
    | some t, x :: st' => if len = 3 ∧ x.2 = 0 ∧ 2 ≤ zk_kd κ.1 x ∧ zk_kd κ.1 x < 99 then some ((zk_ol (zk_nn κ x)).map (fun κ' => (t, κ', st', cu, su)) ++ (zk_ol (zk_nu κ x)).map (fun κ' => (pc + 3, κ', st', cu, su))) else none
    | _, _ => none
  | .ifnull off => match zk_tgt pc off, st with
    | some t, x :: st' => if len = 3 ∧ x.2 = 0 ∧ 2 ≤ zk_kd κ.1 x ∧ zk_kd κ.1 x < 99 then some ((zk_ol (zk_nu κ x)).map (fun κ' => (t, κ', st', cu, su)) ++ (zk_ol (zk_nn κ x)).map (fun κ' => (pc + 3, κ', st', cu, su))) else none
    | _, _ => none
  | .tableswitch d lo hi offs => match zk_tgt pc d, st with
    | some t, x :: st' => if zk_kd κ.1 x = 0 ∧ κ.1[0]? = some (0, 0, 0, 0) ∧ (offs.toList.length : Int) = hi - lo + 1 ∧ offs.toList.all (fun o => (zk_tgt pc o).isSome) = true then
        some ((zk_asm κ .lt x (0, lo) sp).map (fun κ' => (t, κ', st', cu, su)) ++ (zk_asm κ .gt x (0, hi) sp).map (fun κ' => (t, κ', st', cu, su)) ++ (offs.toList.zipIdx).flatMap (fun z => zk_ts κ x st' cu su pc (lo + z.2) (zk_tgt pc z.1))) else none
    | _, _ => none
  | .lookupswitch d ps => match zk_tgt pc d, st with
    | some t, x :: st' => if zk_kd κ.1 x = 0 ∧ κ.1[0]? = some (0, 0, 0, 0) ∧ (ps.toList.zip (ps.toList.drop 1)).all (fun (a, next) => a.1 < next.1) = true ∧ ps.toList.all (fun o => (zk_tgt pc o.2).isSome) = true then
        some ((t, κ, st', cu, su) :: ps.toList.flatMap (fun z => zk_ts κ x st' cu su pc z.1 (zk_tgt pc z.2))) else none
    | _, _ => none
  | _ => none
section ZK8
variable {p : Program} {l : Launch} {e : Env} {R : Room} {s : State} {m : MethodId} {args : Array Value} {below : List Frame} {meth : Method} {c : Code} {Q : State → Prop}
variable {cc : ByteArray} {w : zk_W} {u : zk_M} {Ts : List Jvm.Cond} {own : String}
theorem zk_set_kd {V : List zk_F} {x : Nat} {f f' : zk_F} (hf : V[x]? = some f) (hk : f'.1 = f.1) (z : zk_S) : zk_kd (V.set x f') z = zk_kd V z := by
  unfold zk_kd
  by_cases e : z.1 = x
  · have hl : x < V.length := (List.getElem?_eq_some_iff.mp hf).1
    rw [e, List.getElem?_set_self hl, hf]
    exact hk
  · rw [List.getElem?_set_ne (Ne.symm e)]
theorem zk_asm1_ok {κ : zk_C} {N : List Int} {P : Nat → Option Nat} {F : Nat → va_E} {H : Heap} {locs : List Loc} {ls : Array Slot} (hG : zk_G w s u κ N P F H locs ls) {q r : zk_S} {d a b : Int} (hk : zk_kd κ.1 q = zk_kd κ.1 r) (hk2 : zk_kd κ.1 q < 2) (ha : N[q.1]? = some a) (hb : N[r.1]? = some b) (hle : a + q.2 ≤ b + r.2 + d) :
    ∃ κ', zk_asm1 κ q r d = some κ' ∧ zk_G w s u κ' N P F H locs ls ∧ zk_le κ.1 N κ'.1 N ∧ ∀ z, zk_kd κ'.1 z = zk_kd κ.1 z := by
  obtain ⟨f, e1, e2⟩ := zk_all2_getR hG.1 ha
  obtain ⟨g, e3, e4⟩ := zk_all2_getR hG.1 hb
  have kf : f.1 < 2 := by unfold zk_kd at hk2; rw [e1] at hk2; exact hk2
  have kg : g.1 = f.1 := by unfold zk_kd at hk; rw [e1, e3] at hk; exact hk.symm
  have i1 := e2.iv kf
  have i2 := e4.iv (by omega)
  unfold zk_asm1
  rw [e1, e3]
  dsimp only
  by_cases hqr : q.1 = r.1
  · rw [if_pos hqr]
    rw [hqr, hb] at ha
    cases ha
    rw [if_pos (by omega)]
    exact ⟨κ, rfl, hG, zk_le.rf, fun _ => rfl⟩
  · rw [if_neg hqr, if_neg (by omega)]
    obtain ⟨V, D, rst⟩ := κ
    dsimp only at *
    have G1 : zk_G w s u (V.set q.1 (f.1, f.2.1, f.2.2.1, min f.2.2.2 (g.2.2.2 + r.2 + d - q.2)), D, rst) N P F H locs ls := by
      refine zk_G.set hG e1 (Or.inl rfl) (fun n hn hok => ?_)
      rw [ha] at hn
      cases hn
      obtain ⟨fk, ft, fl, fh⟩ := f
      match fk, kf, hok with
      | 0, _, hok => exact ⟨hok.1, by show _ ≤ min _ _; have := hok.2.1; dsimp only at *; omega, hok.2.2⟩
      | 1, _, hok => exact ⟨hok.1, by show _ ≤ min _ _; have := hok.2.1; dsimp only at *; omega, hok.2.2⟩
    have L1 : zk_le V N (V.set q.1 (f.1, f.2.1, f.2.2.1, min f.2.2.2 (g.2.2.2 + r.2 + d - q.2))) N := zk_le.set e1 (Or.inl rfl)
    have e3' : (V.set q.1 (f.1, f.2.1, f.2.2.1, min f.2.2.2 (g.2.2.2 + r.2 + d - q.2)))[r.1]? = some g := by
      rw [List.getElem?_set_ne hqr]
      exact e3
    have G2 : zk_G w s u ((V.set q.1 (f.1, f.2.1, f.2.2.1, min f.2.2.2 (g.2.2.2 + r.2 + d - q.2))).set r.1 (g.1, g.2.1, max g.2.2.1 (f.2.2.1 + q.2 - d - r.2), g.2.2.2), D, rst) N P F H locs ls := by
      refine zk_G.set G1 e3' (Or.inl rfl) (fun n hn hok => ?_)
      rw [hb] at hn
      cases hn
      obtain ⟨gk, gt, gl, gh⟩ := g
      match gk, kg, hok with
      | 0, _, hok => exact ⟨by show max _ _ ≤ _; have := hok.1; dsimp only at *; omega, hok.2.1, hok.2.2⟩
      | 1, _, hok => exact ⟨by show max _ _ ≤ _; have := hok.1; dsimp only at *; omega, hok.2.1, hok.2.2⟩
      | k + 2, kg, _ => exact absurd kf (by rw [← kg]; show ¬ k + 2 < 2; omega)
    have L2 := zk_le.trans L1 (zk_le.set (N := N) e3' (f' := (g.1, g.2.1, max g.2.2.1 (f.2.2.1 + q.2 - d - r.2), g.2.2.2)) (Or.inl rfl))
    refine ⟨_, rfl, ?_, L2, fun z => ?_⟩
    · by_cases h3 : 3 ≤ q.1 ∧ 3 ≤ r.1
      · rw [if_pos h3]
        exact zk_G.dif G2 ⟨a, b, ha, hb, by dsimp only; omega⟩
      · rw [if_neg h3]
        exact G2
    · exact Eq.trans (zk_set_kd e3' (f' := (g.1, g.2.1, max g.2.2.1 (f.2.2.1 + q.2 - d - r.2), g.2.2.2)) rfl z) (zk_set_kd e1 (f' := (f.1, f.2.1, f.2.2.1, min f.2.2.2 (g.2.2.2 + r.2 + d - q.2))) rfl z)
theorem zk_asm_ok {κ : zk_C} {N : List Int} {P : Nat → Option Nat} {F : Nat → va_E} {H : Heap} {locs : List Loc} {ls : Array Slot} (hG : zk_G w s u κ N P F H locs ls) {q r : zk_S} {k : ClassFile.Cond} {sp : Bool} {a b : Int} (hk : zk_kd κ.1 q = zk_kd κ.1 r) (hk2 : zk_kd κ.1 q < 2) (ha : N[q.1]? = some a) (hb : N[r.1]? = some b) (hc : zk_cmp k (a + q.2) (b + r.2)) :
    ∃ κ' ∈ zk_asm κ k q r sp, zk_G w s u κ' N P F H locs ls ∧ zk_le κ.1 N κ'.1 N := by
  have one : ∀ {q r : zk_S} {d a b : Int}, zk_kd κ.1 q = zk_kd κ.1 r → zk_kd κ.1 q < 2 → N[q.1]? = some a → N[r.1]? = some b → a + q.2 ≤ b + r.2 + d → ∃ κ' ∈ zk_ol (zk_asm1 κ q r d), zk_G w s u κ' N P F H locs ls ∧ zk_le κ.1 N κ'.1 N := by
    intro q r d a b h1 h2 h3 h4 h5
    obtain ⟨κ', z1, z2, z3, -⟩ := zk_asm1_ok hG h1 h2 h3 h4 h5
    rw [z1]
    exact ⟨κ', List.mem_singleton.mpr rfl, z2, z3⟩
  have hkr : zk_kd κ.1 r < 2 := by omega
  cases k
  case eq =>
    have hc : a + q.2 = b + r.2 := hc
    obtain ⟨κ1, z1, z2, z3, z4⟩ := zk_asm1_ok (d := 0) hG hk hk2 ha hb (by omega)
    obtain ⟨κ2, y1, y2, y3, y4⟩ := zk_asm1_ok (d := 0) z2 (q := r) (r := q) (by rw [z4, z4]; exact hk.symm) (by rw [z4]; exact hkr) hb ha (by omega)
    refine ⟨κ2, ?_, y2, z3.trans y3⟩
    simp only [zk_asm]
    rw [z1]
    dsimp only
    rw [y1]
    exact List.mem_singleton.mpr rfl
  case ne =>
    have hc : ¬ a + q.2 = b + r.2 := hc
    simp only [zk_asm]
    by_cases hlt : a + q.2 ≤ b + r.2 + -1
    · obtain ⟨κ1, z1, z2, z3, z4⟩ := zk_asm1_ok (d := -1) hG hk hk2 ha hb hlt
      rw [z1]
      cases zk_asm1 κ r q (-1) with
      | none => exact ⟨κ1, List.mem_singleton.mpr rfl, z2, z3⟩
      | some y =>
        cases sp
        · exact ⟨κ, List.mem_singleton.mpr rfl, hG, zk_le.rf⟩
        · exact ⟨κ1, List.mem_cons_self, z2, z3⟩
    · obtain ⟨κ1, z1, z2, z3, z4⟩ := zk_asm1_ok (d := -1) hG (q := r) (r := q) hk.symm hkr hb ha (by omega)
      rw [z1]
      cases zk_asm1 κ q r (-1) with
      | none => exact ⟨κ1, List.mem_singleton.mpr rfl, z2, z3⟩
      | some y =>
        cases sp
        · exact ⟨κ, List.mem_singleton.mpr rfl, hG, zk_le.rf⟩
        · exact ⟨κ1, List.mem_cons_of_mem _ List.mem_cons_self, z2, z3⟩
  case lt =>
    have hc : a + q.2 < b + r.2 := hc
    exact one hk hk2 ha hb (by omega)
  case ge =>
    have hc : b + r.2 ≤ a + q.2 := hc
    exact one hk.symm hkr hb ha (by omega)
  case gt =>
    have hc : b + r.2 < a + q.2 := hc
    exact one hk.symm hkr hb ha (by omega)
  case le =>
    have hc : a + q.2 ≤ b + r.2 := hc
    exact one hk hk2 ha hb (by omega)
theorem zk_nn_ok {κ : zk_C} {N : List Int} {P : Nat → Option Nat} {F : Nat → va_E} {H : Heap} {locs : List Loc} {ls : Array Slot} (hG : zk_G w s u κ N P F H locs ls) {x : zk_S} {n : Int} (hk : 2 ≤ zk_kd κ.1 x) (hk2 : zk_kd κ.1 x < 99) (ha : N[x.1]? = some n) (hn : 0 ≤ n) : ∃ κ', zk_nn κ x = some κ' ∧ zk_G w s u κ' N P F H locs ls ∧ zk_le κ.1 N κ'.1 N := by
  obtain ⟨f, e1, e2⟩ := zk_all2_getR hG.1 ha
  unfold zk_nn
  rw [e1]
  dsimp only
  by_cases h2 : f.1 = 2
  · rw [if_pos h2]
    obtain ⟨fk, ft, fl, fh⟩ := f
    dsimp only at h2
    subst h2
    have e2 : fl ≤ n ∧ -1 ≤ n ∧ (fh < 0 → n < 0) ∧ (0 ≤ n → P n.toNat = some ft) := e2
    have h3 : ¬ fh < 0 := fun q => absurd (e2.2.2.1 q) (by omega)
    rw [if_neg h3]
    refine ⟨_, rfl, zk_G.set hG e1 (Or.inl rfl) (fun k hk' hok => ?_), zk_le.set e1 (Or.inl rfl)⟩
    rw [ha] at hk'
    cases hk'
    exact ⟨hn, e2.2.1, e2.2.2.1, e2.2.2.2⟩
  · rw [if_neg h2]
    exact ⟨κ, rfl, hG, zk_le.rf⟩
theorem zk_nu_ok {κ : zk_C} {N : List Int} {P : Nat → Option Nat} {F : Nat → va_E} {H : Heap} {locs : List Loc} {ls : Array Slot} (hG : zk_G w s u κ N P F H locs ls) {x : zk_S} {n : Int} (hk : 2 ≤ zk_kd κ.1 x) (hk2 : zk_kd κ.1 x < 99) (ha : N[x.1]? = some n) (hn : n < 0) : ∃ κ', zk_nu κ x = some κ' ∧ zk_G w s u κ' N P F H locs ls ∧ zk_le κ.1 N κ'.1 N := by
  obtain ⟨f, e1, e2⟩ := zk_all2_getR hG.1 ha
  have hkf : 2 ≤ f.1 := by unfold zk_kd at hk; rw [e1] at hk; exact hk
  unfold zk_nu
  rw [e1]
  dsimp only
  obtain ⟨fk, ft, fl, fh⟩ := f
  match fk, hkf with
  | 2, _ =>
    have e2 : fl ≤ n ∧ -1 ≤ n ∧ (fh < 0 → n < 0) ∧ (0 ≤ n → P n.toNat = some ft) := e2
    rw [if_pos rfl, if_neg (show ¬ 0 ≤ fl by omega)]
    refine ⟨_, rfl, zk_G.set hG e1 (Or.inl rfl) (fun k hk' hok => ?_), zk_le.set e1 (Or.inl rfl)⟩
    rw [ha] at hk'
    cases hk'
    exact ⟨by show (-1 : Int) ≤ n; omega, e2.2.1, fun _ => hn, fun q => absurd q (by omega)⟩
  | k + 3, _ =>
    have e2 : 0 ≤ n := e2
    omega
end ZK8
end
section
/-! part 9: branches and switches hold -/
section ZK9
variable {p : Program} {l : Launch} {e : Env} {R : Room} {s : State} {m : MethodId} {args : Array Value} {below : List Frame} {meth : Method} {c : Code} {Q : State → Prop}
variable {cc : ByteArray} {w : zk_W} {u : zk_M} {Ts : List Jvm.Cond} {own : String}
theorem zk_br {κ : zk_C} {x y : zk_S} {k : ClassFile.Cond} {sp : Bool} {st : List zk_S} {cu su t : Nat} (kk : ∀ κ' ∈ zk_asm κ k x y sp, zk_J p l e R s m args below meth c Q w u κ' st cu su t) {N : List Int} {P : Nat → Option Nat} {F : Nat → va_E} {H : Heap} {locs : List Loc} {ls : Array Slot} {sv : List Value} (hG : zk_G w s u κ N P F H locs ls) (hS : zk_all2 (zk_sv κ.1 N) st sv) {a b : Int} (hk : zk_kd κ.1 x = zk_kd κ.1 y) (hk2 : zk_kd κ.1 x < 2) (ha : N[x.1]? = some a) (hb : N[y.1]? = some b) (hc : zk_cmp k (a + x.2) (b + y.2)) : W p l e R s m args below meth c H locs cu su Q (F0 m t ls sv) := by
  obtain ⟨κ', h1, h2, h3⟩ := zk_asm_ok (sp := sp) hG hk hk2 ha hb hc
  exact kk κ' h1 N P F H locs ls sv h2 (zk_sv_mono h3 hS)
theorem zk_lk_off {ps : List (Int × Int)} {d v : Int} : (∃ z ∈ ps, z.1 = v ∧ Op.lookupswitch.offset ps d v = z.2) ∨ Op.lookupswitch.offset ps d v = d := by
  induction ps with
  | nil => exact Or.inr rfl
  | cons q r ih =>
    obtain ⟨a, o⟩ := q
    rw [Op.lookupswitch.offset_cons]
    by_cases h : a = v
    · rw [if_pos h]
      exact Or.inl ⟨(a, o), List.mem_cons_self, h, rfl⟩
    · rw [if_neg h]
      rcases ih with ⟨z, h1, h2, h3⟩ | h1
      · exact Or.inl ⟨z, List.mem_cons_of_mem _ h1, h2, h3⟩
      · exact Or.inr h1
theorem zk_s2_ok (hx : p.tables.exec = Jvm.exec) (hb : c.code = cc) {i : ClassFile.Instr} {len pc : Nat} {κ : zk_C} {st : List zk_S} {cu su : Nat} {sp : Bool} {nx : Option (ClassFile.Instr × Nat)} {outs : List zk_O} (hs : zk_s2 sp nx i len pc κ st cu su = some outs) (hdg : decode cc pc = .ok (i, len)) (hnx : ∀ z, nx = some z → i = .lcmp → decode cc (pc + 1) = .ok z) (kk : ∀ o ∈ outs, zk_J p l e R s m args below meth c Q w u o.2.1 o.2.2.1 o.2.2.2.1 o.2.2.2.2 o.1) : zk_J p l e R s m args below meth c Q w u κ st cu su pc := by
  intro N P F H locs ls sv hG hS
  have hV := hG.1
  unfold zk_s2 at hs
  split at hs
  · rename_i off
    split at hs
    · rename_i t ht
      split at hs
      · rename_i hl
        subst hl
        cases hs
        exact lv_goto hx hb hdg (zk_tgt_ok ht) (kk _ List.mem_cons_self N P F H locs ls sv hG hS)
      · cases hs
    · cases hs
  · rename_i k off
    split at hs
    · rename_i t y x st' ht
      split at hs
      · rename_i hc
        obtain ⟨rfl, h1, h2⟩ := hc
        cases hs
        match sv, hS with
        | vy :: vx :: sv', hS =>
          obtain ⟨a, rfl, ra, la, ha, ka, na, ea⟩ := hS.2.1.int hV h1
          obtain ⟨b, rfl, rb, lb, hb', kb, nb, eb⟩ := hS.1.int hV h2
          refine zw_icmp hx hb hdg (zk_tgt_ok ht) ra rb (fun hc => ?_) (fun hc => ?_)
          · exact zk_br (fun κ' hκ => kk (_, κ', _, _, _) (List.mem_append_left _ (List.mem_map.mpr ⟨κ', hκ, rfl⟩))) hG hS.2.2 (h1.trans h2.symm) (by omega) na nb (by rw [← ea, ← eb]; exact hc)
          · exact zk_br (fun κ' hκ => kk (_, κ', _, _, _) (List.mem_append_right _ (List.mem_map.mpr ⟨κ', hκ, rfl⟩))) hG hS.2.2 (h1.trans h2.symm) (by omega) na nb (by rw [← ea, ← eb]; exact zk_neg_ok hc)
      · cases hs
    · cases hs
  · rename_i k off
    split at hs
    · rename_i t x st' ht
      split at hs
      · rename_i hc
        obtain ⟨rfl, h1, h2⟩ := hc
        cases hs
        match sv, hS with
        | vx :: sv', hS =>
          obtain ⟨a, rfl, ra, la, ha, ka, na, ea⟩ := hS.1.int hV h1
          have n0 := zk_c0 hV h2
          have k0 : zk_kd κ.1 ((0, 0) : zk_S) = 0 := by unfold zk_kd; rw [h2]
          refine zw_if hx hb hdg (zk_tgt_ok ht) ra (fun hc => ?_) (fun hc => ?_)
          · exact zk_br (fun κ' hκ => kk (_, κ', _, _, _) (List.mem_append_left _ (List.mem_map.mpr ⟨κ', hκ, rfl⟩))) hG hS.2 (h1.trans k0.symm) (by omega) na n0 (by rw [← ea]; exact hc)
          · exact zk_br (fun κ' hκ => kk (_, κ', _, _, _) (List.mem_append_right _ (List.mem_map.mpr ⟨κ', hκ, rfl⟩))) hG hS.2 (h1.trans k0.symm) (by omega) na n0 (by rw [← ea]; exact zk_neg_ok hc)
      · cases hs
    · cases hs
  · split at hs
    · rename_i k off
      split at hs
      · rename_i t y x st' ht
        split at hs
        · rename_i hc
          obtain ⟨rfl, h1, h2⟩ := hc
          cases hs
          match sv, hS with
          | vy :: vx :: sv', hS =>
            obtain ⟨a, rfl, ra, la, ha, ka, na, ea⟩ := hS.2.1.long hV h1
            obtain ⟨b, rfl, rb, lb, hb', kb, nb, eb⟩ := hS.1.long hV h2
            refine zw_lcmp hx hb hdg (hnx _ rfl rfl) (zk_tgt_ok ht) ra rb (fun hc => ?_) (fun hc => ?_)
            · exact zk_br (fun κ' hκ => kk (_, κ', _, _, _) (List.mem_append_left _ (List.mem_map.mpr ⟨κ', hκ, rfl⟩))) hG hS.2.2 (h1.trans h2.symm) (by omega) na nb (by rw [← ea, ← eb]; exact hc)
            · exact zk_br (fun κ' hκ => kk (_, κ', _, _, _) (List.mem_append_right _ (List.mem_map.mpr ⟨κ', hκ, rfl⟩))) hG hS.2.2 (h1.trans h2.symm) (by omega) na nb (by rw [← ea, ← eb]; exact zk_neg_ok hc)
        · cases hs
      · cases hs
    · cases hs
  · rename_i off
    split at hs
    · rename_i t x st' ht
      split at hs
      · rename_i hc
        obtain ⟨rfl, h0, h1, h2⟩ := hc
        cases hs
        match sv, hS with
        | vx :: sv', hS =>
          obtain ⟨-, n, na, ev⟩ := hS.1.ref h1 h2
          rw [h0, Int.add_zero] at ev
          by_cases hn : n < 0
          · rw [if_pos hn] at ev
            subst ev
            obtain ⟨κ', z1, z2, z3⟩ := zk_nu_ok hG h1 h2 na hn
            exact lv_ifnonnullN hx hb hdg (kk (_, κ', _, _, _) (List.mem_append_right _ (List.mem_map.mpr ⟨κ', by rw [z1]; exact List.mem_singleton.mpr rfl, rfl⟩)) N P F H locs ls _ z2 (zk_sv_mono z3 hS.2))
          · rw [if_neg hn] at ev
            subst ev
            obtain ⟨κ', z1, z2, z3⟩ := zk_nn_ok hG h1 h2 na (by omega)
            exact lv_ifnonnull hx hb hdg (zk_tgt_ok ht) (kk (_, κ', _, _, _) (List.mem_append_left _ (List.mem_map.mpr ⟨κ', by rw [z1]; exact List.mem_singleton.mpr rfl, rfl⟩)) N P F H locs ls _ z2 (zk_sv_mono z3 hS.2))
      · cases hs
    · cases hs
  · rename_i off
    split at hs
    · rename_i t x st' ht
      split at hs
      · rename_i hc
        obtain ⟨rfl, h0, h1, h2⟩ := hc
        cases hs
        match sv, hS with
        | vx :: sv', hS =>
          obtain ⟨-, n, na, ev⟩ := hS.1.ref h1 h2
          rw [h0, Int.add_zero] at ev
          by_cases hn : n < 0
          · rw [if_pos hn] at ev
            subst ev
            obtain ⟨κ', z1, z2, z3⟩ := zk_nu_ok hG h1 h2 na hn
            exact lv_ifnullN hx hb hdg (zk_tgt_ok ht) (kk (_, κ', _, _, _) (List.mem_append_left _ (List.mem_map.mpr ⟨κ', by rw [z1]; exact List.mem_singleton.mpr rfl, rfl⟩)) N P F H locs ls _ z2 (zk_sv_mono z3 hS.2))
          · rw [if_neg hn] at ev
            subst ev
            obtain ⟨κ', z1, z2, z3⟩ := zk_nn_ok hG h1 h2 na (by omega)
            exact lv_ifnull hx hb hdg (kk (_, κ', _, _, _) (List.mem_append_right _ (List.mem_map.mpr ⟨κ', by rw [z1]; exact List.mem_singleton.mpr rfl, rfl⟩)) N P F H locs ls _ z2 (zk_sv_mono z3 hS.2))
      · cases hs
    · cases hs
  · rename_i d lo hi offs
    split at hs
    · rename_i t x st' ht
      split at hs
      · rename_i hc
        obtain ⟨h1, h2, h3, h4⟩ := hc
        cases hs
        match sv, hS with
        | vx :: sv', hS =>
          obtain ⟨a, rfl, ra, la, ha, ka, na, ea⟩ := hS.1.int hV h1
          have n0 := zk_c0 hV h2
          have k0 : ∀ z, zk_kd κ.1 ((0, z) : zk_S) = 0 := by intro z; unfold zk_kd; rw [h2]
          have ei := zk_i32 ra
          by_cases c1 : a < lo
          · refine lv_tableOut hx hb hdg (Or.inl (by rw [ei]; exact c1)) (zk_tgt_ok ht) ?_
            exact zk_br (k := .lt) (y := (0, lo)) (fun κ' hκ => kk (_, κ', _, _, _) (List.mem_append_left _ (List.mem_append_left _ (List.mem_map.mpr ⟨κ', hκ, rfl⟩)))) hG hS.2 (h1.trans (k0 _).symm) (by omega) na n0 (by show ka + x.2 < 0 + lo; omega)
          · by_cases c2 : hi < a
            · refine lv_tableOut hx hb hdg (Or.inr (by rw [ei]; exact c2)) (zk_tgt_ok ht) ?_
              exact zk_br (k := .gt) (y := (0, hi)) (fun κ' hκ => kk (_, κ', _, _, _) (List.mem_append_left _ (List.mem_append_right _ (List.mem_map.mpr ⟨κ', hκ, rfl⟩)))) hG hS.2 (h1.trans (k0 _).symm) (by omega) na n0 (by show 0 + hi < ka + x.2; omega)
            · have hj : (a - lo).toNat < offs.toList.length := by omega
              obtain ⟨o, ho⟩ : ∃ o, offs.toList[(a - lo).toNat]? = some o := ⟨_, List.getElem?_eq_getElem hj⟩
              have hom := List.mem_of_getElem? ho
              have h5 := List.all_eq_true.mp h4 o hom
              obtain ⟨t', ht'⟩ := Option.isSome_iff_exists.mp h5
              refine lv_tableIn hx hb hdg (by rw [ei]; exact c1) (by rw [ei]; exact c2) (off := o) (by rw [ei, ← Array.getElem?_toList]; exact ho) (zk_tgt_ok ht') ?_
              refine zk_br (k := .eq) (y := (0, lo + ((a - lo).toNat : Nat))) (sp := false) (fun κ' hκ => kk (t', κ', _, _, _) (List.mem_append_right _ (List.mem_flatMap.mpr ⟨(o, (a - lo).toNat), ?_, ?_⟩))) hG hS.2 (h1.trans (k0 _).symm) (by omega) na n0 (by show ka + x.2 = 0 + (lo + ((a - lo).toNat : Nat)); omega)
              · rw [List.mk_mem_zipIdx_iff_getElem?]
                exact ho
              · unfold zk_ts
                rw [ht']
                exact List.mem_map.mpr ⟨κ', hκ, rfl⟩
      · cases hs
    · cases hs
  · rename_i d ps
    split at hs
    · rename_i t x st' ht
      split at hs
      · rename_i hc
        obtain ⟨h1, h2, h3, h4⟩ := hc
        cases hs
        match sv, hS with
        | vx :: sv', hS =>
          obtain ⟨a, rfl, ra, la, ha, ka, na, ea⟩ := hS.1.int hV h1
          have n0 := zk_c0 hV h2
          have k0 : ∀ z, zk_kd κ.1 ((0, z) : zk_S) = 0 := by intro z; unfold zk_kd; rw [h2]
          have ei := zk_i32 ra
          rcases zk_lk_off (ps := ps.toList) (d := d) (v := a) with ⟨z, hz, e1, e2⟩ | e2
          · have h5 := List.all_eq_true.mp h4 z hz
            obtain ⟨t', ht'⟩ := Option.isSome_iff_exists.mp h5
            refine lv_lookup hx hb hdg h3 (by rw [ei]; exact e2) (zk_tgt_ok ht') ?_
            refine zk_br (k := .eq) (y := (0, z.1)) (sp := false) (fun κ' hκ => kk (t', κ', _, _, _) (List.mem_cons_of_mem _ (List.mem_flatMap.mpr ⟨z, hz, ?_⟩))) hG hS.2 (h1.trans (k0 _).symm) (by omega) na n0 (by show ka + x.2 = 0 + z.1; omega)
            unfold zk_ts
            rw [ht']
            exact List.mem_map.mpr ⟨κ', hκ, rfl⟩
          · exact lv_lookup hx hb hdg h3 (by rw [ei]; exact e2) (zk_tgt_ok ht) (kk _ List.mem_cons_self N P F H locs ls _ hG hS.2)
      · cases hs
    · cases hs
  · cases hs
end ZK9
end
section
/-! part 10: the stack, conversions, the pool's constants, Object's constructor, Math -/
/-- what a row of the link table says: 0 an int constant, 1 a long; 2 a field (class, place; its kind of type and 16 if it is final, 32 if final and another class's); 3 a class to be made; 4 one for an array of references; 5 an array class; 6 Math's (0 max, 1 min, of ints; 2, 3 of longs); 7 Object's constructor; 8 arraycopy; 9 a text constant (its type) -/
abbrev zk_L : Type := Nat × Nat × Nat × Nat × Int
def zk_tyc (ty : FieldType) : Int := match ty with
  | .int => 0
  | .long => 1
  | .object _ => 2
  | .array _ => 2
  | .boolean => 3
  | .byte => 4
  | .char => 5
  | .short => 6
  | _ => 9
def zk_dk (ty : FieldType) : Nat := match ty with
  | .long => 1
  | .object _ => 2
  | .array _ => 2
  | _ => 0
def zk_aty2 (k : Nat) : FieldType := if k = 2 then .long else zk_aty k
def zk_math (k : Nat) : MethodName × ByteArray × Nat × FieldType := match k with
  | 0 => (Lib.Math.max.name, Lib.Math.max.code, 2, .int)
  | 1 => (Lib.Math.min.name, Lib.Math.min.code, 2, .int)
  | 2 => (Lib.MathLoose.max_long.x, Lib.MathLoose.max_long.code, 4, .long)
  | _ => (Lib.MathLoose.min_long.x, Lib.MathLoose.min_long.code, 4, .long)
def zk_lkok (w : zk_W) (s : State) (args : Array Value) (own : String) (q : zk_L) : Prop := match q.1 with
  | 0 => (Jvm.Cond.constant own q.2.1 (Int32.ofInt q.2.2.2.2)).before args s = true ∧ zk_rg 0 q.2.2.2.2
  | 1 => (Jvm.Cond.constantLong own q.2.1 (Int64.ofInt q.2.2.2.2)).before args s = true ∧ zk_rg 1 q.2.2.2.2
  | 2 => zk_fl w s args own q.2.1 q.2.2.1 q.2.2.2.1 ∧ ∃ (C : String) (T : u_T) (N : Nat) (ty : FieldType), w.2.1[q.2.2.1]? = some (C, T, N) ∧ parseFieldDescriptor (T q.2.2.2.1).2.2.1 = some ty ∧ zk_tyc ty = q.2.2.2.2 % 16 ∧ (T q.2.2.2.1).2.2.2 = decide (16 ≤ q.2.2.2.2) ∧ (16 ≤ q.2.2.2.2 ∧ q.2.2.2.2 < 32 → (T q.2.2.2.1).1 = own)
  | 3 => ∃ (C : String) (T : u_T), w.2.1[q.2.2.1]? = some (C, T, q.2.2.2.1) ∧ (Jvm.Cond.classLink own q.2.1 C).before args s = true ∧ (Jvm.Cond.instantiable C q.2.2.2.1).before args s = true ∧ (Jvm.Cond.initialized C).before args s = true
  | 4 => ∃ (C : String) (T : u_T) (N : Nat), w.2.1[q.2.2.1]? = some (C, T, N) ∧ (Jvm.Cond.classLink own q.2.1 C).before args s = true ∧ (Jvm.Cond.arrayOver (.object C)).before args s = true
  | 5 => (Jvm.Cond.arrayClass (zk_aty2 q.2.2.1)).before args s = true
  | 6 => (Jvm.Cond.methodLink own q.2.1 (zk_math q.2.2.1).1).before args s = true ∧ (Jvm.Cond.static (zk_math q.2.2.1).1).before args s = true ∧ (Jvm.Cond.initialized "java/lang/Math").before args s = true ∧ (Jvm.Cond.code (zk_math q.2.2.1).1 (zk_math q.2.2.1).2.1 (zk_math q.2.2.1).2.2.1 (some (zk_math q.2.2.1).2.2.2)).before args s = true
  | 7 => (Jvm.Cond.methodLink own q.2.1 objectInit).before args s = true ∧ (Jvm.Cond.instanceMethod objectInit).before args s = true ∧ (Jvm.Cond.code objectInit ⟨#[0xb1]⟩ 1 none).before args s = true
  | 8 => (Jvm.Cond.methodLink own q.2.1 arraycopyName).before args s = true ∧ (Jvm.Cond.native arraycopyName).before args s = true ∧ (Jvm.Cond.static arraycopyName).before args s = true ∧ (Jvm.Cond.initialized "java/lang/System").before args s = true
  | 9 => ∃ (tx : String) (a : Nat), w.2.2.2.2.1 q.2.2.1 a ∧ vk_R own q.2.1 tx a s
  | _ => True
def zk_lk (lk : List zk_L) (k idx : Nat) : Option zk_L := lk.find? (fun q => q.1 == k && q.2.1 == idx)
theorem zk_lk_ok {w : zk_W} {s : State} {args : Array Value} {own : String} {lk : List zk_L} (h : ∀ q ∈ lk, zk_lkok w s args own q) {k idx : Nat} {q : zk_L} (hq : zk_lk lk k idx = some q) : q.1 = k ∧ q.2.1 = idx ∧ zk_lkok w s args own q := by
  have h1 := List.find?_some hq
  simp only [Bool.and_eq_true, beq_iff_eq] at h1
  exact ⟨h1.1, h1.2, h q (List.mem_of_find?_eq_some hq)⟩
def zk_cs (V : List zk_F) (st : List zk_S) : Nat := (st.map (zk_cat V)).sum
theorem zk_cs_ok {V : List zk_F} {N : List Int} : ∀ {st : List zk_S} {sv : List Value}, zk_all2 (zk_sv V N) st sv → (sv.map fun v => v.category).sum = zk_cs V st
  | [], [], _ => rfl
  | q :: st, v :: sv, h => by
    have h1 : v.category = zk_cat V q := h.1.cat
    have h2 := zk_cs_ok h.2
    unfold zk_cs at h2 ⊢
    simp only [List.map_cons, List.sum_cons]
    rw [h2, h1]
  | [], _ :: _, h => h.elim
  | _ :: _, [], h => h.elim
/-- a new variable that holds q's number -/
def zk_lnk (D : List (Nat × Nat × Int)) (q : zk_S) (n : Nat) : List (Nat × Nat × Int) := if 3 ≤ q.1 then (q.1, n, -q.2) :: (n, q.1, q.2) :: D else D
theorem zk_lnk_ok {κ : zk_C} {N : List Int} {P : Nat → Option Nat} {F : Nat → va_E} {H : Heap} {locs : List Loc} {ls : Array Slot} {w : zk_W} {s : State} {u : zk_M} (hG : zk_G w s u κ N P F H locs ls) {q : zk_S} {n : Nat} {k : Int} (h1 : N[q.1]? = some k) (h2 : N[n]? = some (k + q.2)) : zk_G w s u (κ.1, zk_lnk κ.2.1 q n, κ.2.2) N P F H locs ls := by
  unfold zk_lnk
  split
  · exact (hG.dif (q := (n, q.1, q.2)) ⟨k + q.2, k, h2, h1, Int.le_refl _⟩).dif (q := (q.1, n, -q.2)) ⟨k, k + q.2, h1, h2, by dsimp only; omega⟩
  · exact hG
def zk_s4 (lk : List zk_L) (rm : Nat × Nat × Nat × Nat) (i : ClassFile.Instr) (len pc : Nat) (κ : zk_C) (st : List zk_S) (cu su : Nat) : Option zk_O := match i with
  | .dup => match st with
    | x :: st' => if len = 1 ∧ zk_cat κ.1 x = 1 then some (pc + 1, κ, x :: x :: st', cu, su) else none
    | _ => none
  | .dup2 => match st with
    | x :: y :: st' => if len = 1 ∧ zk_cat κ.1 x = 1 ∧ zk_cat κ.1 y = 1 then some (pc + 1, κ, x :: y :: x :: y :: st', cu, su) else none
    | _ => none
  | .pop => match st with
    | x :: st' => if len = 1 ∧ zk_cat κ.1 x = 1 then some (pc + 1, κ, st', cu, su) else none
    | _ => none
  | .pop2 => match st with
    | x :: st' => if len = 1 ∧ zk_cat κ.1 x = 2 then some (pc + 1, κ, st', cu, su) else none
    | _ => none
  | .i2l => match st with
    | x :: st' => if len = 1 ∧ zk_kd κ.1 x = 0 then some (pc + 1, (κ.1 ++ [(1, 0, zk_lw κ.1 x, zk_hg κ.1 x)], zk_lnk κ.2.1 x κ.1.length, κ.2.2), (κ.1.length, 0) :: st', cu, su) else none
    | _ => none
  | .l2i => match st with
    | x :: st' => if len = 1 ∧ zk_kd κ.1 x = 1 then some (pc + 1, (κ.1 ++ [(0, 0, (zk_clip (zk_lw κ.1 x) (zk_hg κ.1 x)).1, (zk_clip (zk_lw κ.1 x) (zk_hg κ.1 x)).2)], (if zk_m31 ≤ zk_lw κ.1 x ∧ zk_hg κ.1 x ≤ zk_p31 then zk_lnk κ.2.1 x κ.1.length else κ.2.1), κ.2.2), (κ.1.length, 0) :: st', cu, su) else none
    | _ => none
  | .lshl => match st with
    | y :: x :: st' => if len = 1 ∧ zk_kd κ.1 x = 1 ∧ zk_kd κ.1 y = 0 then some (pc + 1, (κ.1 ++ [(1, 0, -9223372036854775808, 9223372036854775807)], κ.2), (κ.1.length, 0) :: st', cu, su) else none
    | _ => none
  | .ldc idx => match zk_lk lk 0 idx with
    | some q => if len = 2 then some (pc + 2, (κ.1 ++ [(0, 0, q.2.2.2.2, q.2.2.2.2)], κ.2), (κ.1.length, 0) :: st, cu, su) else none
    | none => none
  | .ldc_w idx => match zk_lk lk 0 idx with
    | some q => if len = 3 then some (pc + 3, (κ.1 ++ [(0, 0, q.2.2.2.2, q.2.2.2.2)], κ.2), (κ.1.length, 0) :: st, cu, su) else none
    | none => none
  | .ldc2_w idx => match zk_lk lk 1 idx with
    | some q => if len = 3 then some (pc + 3, (κ.1 ++ [(1, 0, q.2.2.2.2, q.2.2.2.2)], κ.2), (κ.1.length, 0) :: st, cu, su) else none
    | none => none
  | .invokespecial idx => match zk_lk lk 7 idx, st with
    | some _, x :: st' => if len = 3 ∧ 3 ≤ zk_kd κ.1 x ∧ zk_kd κ.1 x < 99 ∧ x.2 = 0 ∧ 1 ≤ rm.1 ∧ zk_cs κ.1 st' + 12 ≤ rm.2.1 then some (pc + 3, κ, st', cu, su) else none
    | _, _ => none
  | .invokestatic idx => match zk_lk lk 6 idx, st with
    | some q, y :: x :: st' => if len = 3 ∧ 1 ≤ rm.1 ∧ zk_cs κ.1 st' + 15 ≤ rm.2.1 ∧ cu ≤ rm.2.2.1 ∧ su ≤ rm.2.2.2 then
        (if q.2.2.1 < 2 then (if zk_kd κ.1 x = 0 ∧ zk_kd κ.1 y = 0 then some (pc + 3, (κ.1 ++ [(0, 0, (if q.2.2.1 = 0 then max (zk_lw κ.1 x) (zk_lw κ.1 y) else min (zk_lw κ.1 x) (zk_lw κ.1 y)), (if q.2.2.1 = 0 then max (zk_hg κ.1 x) (zk_hg κ.1 y) else min (zk_hg κ.1 x) (zk_hg κ.1 y)))], κ.2), (κ.1.length, 0) :: st', cu, su) else none)
         else (if zk_kd κ.1 x = 1 ∧ zk_kd κ.1 y = 1 then some (pc + 3, (κ.1 ++ [(1, 0, (if q.2.2.1 = 2 then max (zk_lw κ.1 x) (zk_lw κ.1 y) else min (zk_lw κ.1 x) (zk_lw κ.1 y)), (if q.2.2.1 = 2 then max (zk_hg κ.1 x) (zk_hg κ.1 y) else min (zk_hg κ.1 x) (zk_hg κ.1 y)))], κ.2), (κ.1.length, 0) :: st', cu, su) else none)) else none
    | _, _ => none
  | _ => none
section ZK10
variable {p : Program} {l : Launch} {e : Env} {R : Room} {s : State} {m : MethodId} {args : Array Value} {below : List Frame} {meth : Method} {c : Code} {Q : State → Prop}
variable {cc : ByteArray} {w : zk_W} {u : zk_M} {Ts : List Jvm.Cond} {own : String}
theorem zk_l2i_in {n a b : Int} (hr : zk_rg 1 n) (h1 : a ≤ n) (h2 : n ≤ b) : (zk_clip a b).1 ≤ (Int64.ofInt n).toInt32.toInt ∧ (Int64.ofInt n).toInt32.toInt ≤ (zk_clip a b).2 := by
  refine zk_clip_in h1 h2 (fun h => ?_)
  rw [Int64.toInt_toInt32, zk_i64 hr]
  obtain ⟨g1, g2⟩ := h
  rw [Int.bmod_eq_of_le (by omega) (by omega)]
theorem zk_s4_ok (hx : p.tables.exec = Jvm.exec) (hb : c.code = cc) (hml : c.maxLocals = u.2.2.2.2.2.1) (hown : s.vm.findClass own = some m.cls) {lk : List zk_L} (hlk : ∀ q ∈ lk, zk_lkok w s args own q) {rm : Nat × Nat × Nat × Nat} (hR : rm.1 ≤ R.frames ∧ rm.2.1 ≤ R.locals ∧ rm.2.2.1 ≤ R.cells ∧ rm.2.2.2 ≤ R.slots) {i : ClassFile.Instr} {len pc : Nat} {κ : zk_C} {st : List zk_S} {cu su : Nat} {o : zk_O} (hs : zk_s4 lk rm i len pc κ st cu su = some o) (hdg : decode cc pc = .ok (i, len)) (kk : zk_J p l e R s m args below meth c Q w u o.2.1 o.2.2.1 o.2.2.2.1 o.2.2.2.2 o.1) : zk_J p l e R s m args below meth c Q w u κ st cu su pc := by
  intro N P F H locs ls sv hG hS
  have hV := hG.1
  unfold zk_s4 at hs
  split at hs
  · split at hs
    · rename_i x st'
      split at hs
      · rename_i hc
        obtain ⟨rfl, h1⟩ := hc
        cases hs
        match sv, hS with
        | vx :: sv', hS => exact lv_dup hx hb hdg (hS.1.cat.trans h1) (kk N P F H locs ls _ hG ⟨hS.1, hS⟩)
      · cases hs
    · cases hs
  · split at hs
    · rename_i x y st'
      split at hs
      · rename_i hc
        obtain ⟨rfl, h1, h2⟩ := hc
        cases hs
        match sv, hS with
        | vx :: vy :: sv', hS => exact lv_dup2_11 hx hb hdg (hS.1.cat.trans h1) (hS.2.1.cat.trans h2) (kk N P F H locs ls _ hG ⟨hS.1, hS.2.1, hS⟩)
      · cases hs
    · cases hs
  · split at hs
    · rename_i x st'
      split at hs
      · rename_i hc
        obtain ⟨rfl, h1⟩ := hc
        cases hs
        match sv, hS with
        | vx :: sv', hS => exact lv_pop hx hb hdg (hS.1.cat.trans h1) (kk N P F H locs ls _ hG hS.2)
      · cases hs
    · cases hs
  · split at hs
    · rename_i x st'
      split at hs
      · rename_i hc
        obtain ⟨rfl, h1⟩ := hc
        cases hs
        match sv, hS with
        | vx :: sv', hS => exact lv_pop2_2 hx hb hdg (hS.1.cat.trans h1) (kk N P F H locs ls _ hG hS.2)
      · cases hs
    · cases hs
  · split at hs
    · rename_i x st'
      split at hs
      · rename_i hc
        obtain ⟨rfl, h1⟩ := hc
        cases hs
        match sv, hS with
        | vx :: sv', hS =>
          obtain ⟨a, rfl, ra, la, ha, ka, na, ea⟩ := hS.1.int hV h1
          have f1 : zk_ok P (1, 0, zk_lw κ.1 x, zk_hg κ.1 x) a := ⟨la, ha, ⟨by have := ra.1; omega, by have := ra.2; omega⟩⟩
          refine lv_i2l (v := Int64.ofInt a) hx hb hdg ?_ (kk _ P F H locs ls _ (zk_lnk_ok (hG.push f1) (zk_get_snoc na) (by rw [zk_all2_len hV, ← ea]; exact zk_get_last)) ⟨zk_sv_last hV f1, zk_sv_mono (zk_le.snoc _ _) hS.2⟩)
          rw [← Int64.toInt_inj, Int32.toInt_toInt64, zk_i32 ra, zk_i64 f1.rg]
      · cases hs
    · cases hs
  · split at hs
    · rename_i x st'
      split at hs
      · rename_i hc
        obtain ⟨rfl, h1⟩ := hc
        cases hs
        match sv, hS with
        | vx :: sv', hS =>
          obtain ⟨a, rfl, ra, la, ha, ka, na, ea⟩ := hS.1.long hV h1
          obtain ⟨f1, f2⟩ := zk_fresh32 (P := P) (zk_l2i_in ra la ha)
          have hl2 : zk_m31 ≤ zk_lw κ.1 x ∧ zk_hg κ.1 x ≤ zk_p31 → (Int64.ofInt a).toInt32.toInt = a := fun hc => by
            obtain ⟨z1, z2⟩ := hc
            unfold zk_m31 at z1
            unfold zk_p31 at z2
            have e1 : (zk_clip a a).1 = a ∧ (zk_clip a a).2 = a := by
              unfold zk_clip
              rw [if_pos ⟨by unfold zk_m31; omega, by unfold zk_p31; omega⟩]
              exact ⟨rfl, rfl⟩
            have e2 := zk_l2i_in ra (Int.le_refl a) (Int.le_refl a)
            omega
          refine lv_l2i hx hb hdg rfl (kk (N ++ [(Int64.ofInt a).toInt32.toInt]) P F H locs ls _ ?_ ⟨?_, zk_sv_mono (zk_le.snoc _ _) hS.2⟩)
          · split
            · rename_i hc
              exact zk_lnk_ok (hG.push f1) (zk_get_snoc na) (by rw [zk_all2_len hV, ← ea, hl2 hc]; exact zk_get_last)
            · exact hG.push f1
          · rw [f2]
            exact zk_sv_last hV f1
      · cases hs
    · cases hs
  · split at hs
    · rename_i y x st'
      split at hs
      · rename_i hc
        obtain ⟨rfl, h1, h2⟩ := hc
        cases hs
        match sv, hS with
        | vy :: vx :: sv', hS =>
          obtain ⟨a, rfl, ra, la, ha, -⟩ := hS.2.1.long hV h1
          obtain ⟨b, rfl, rb, lb, hb', -⟩ := hS.1.int hV h2
          obtain ⟨f1, f2⟩ := zk_fresh64 (P := P) (v := Int64.ofInt a <<< ((Int32.ofInt b).toInt64 &&& 63))
          refine lv_lshl hx hb hdg rfl (kk _ P F H locs ls _ (hG.push f1) ⟨?_, zk_sv_mono (zk_le.snoc _ _) hS.2.2⟩)
          rw [f2]
          exact zk_sv_last hV f1
      · cases hs
    · cases hs
  · rename_i idx
    split at hs
    · rename_i q hq
      split at hs
      · rename_i hc
        subst hc
        cases hs
        obtain ⟨k, j, a, b, v⟩ := q
        obtain ⟨e1, e2, e3⟩ := zk_lk_ok hlk hq
        dsimp only at e1 e2
        subst e1; subst e2
        have f1 : zk_ok P (0, 0, v, v) v := ⟨Int.le_refl _, Int.le_refl _, e3.2⟩
        exact lv_ldc hx hb hown e3.1 hdg (kk _ P F H locs ls _ (hG.push f1) ⟨zk_sv_last hV f1, zk_sv_mono (zk_le.snoc _ _) hS⟩)
      · cases hs
    · cases hs
  · rename_i idx
    split at hs
    · rename_i q hq
      split at hs
      · rename_i hc
        subst hc
        cases hs
        obtain ⟨k, j, a, b, v⟩ := q
        obtain ⟨e1, e2, e3⟩ := zk_lk_ok hlk hq
        dsimp only at e1 e2
        subst e1; subst e2
        have f1 : zk_ok P (0, 0, v, v) v := ⟨Int.le_refl _, Int.le_refl _, e3.2⟩
        exact lv_ldcw hx hb hown e3.1 hdg (kk _ P F H locs ls _ (hG.push f1) ⟨zk_sv_last hV f1, zk_sv_mono (zk_le.snoc _ _) hS⟩)
      · cases hs
    · cases hs
  · rename_i idx
    split at hs
    · rename_i q hq
      split at hs
      · rename_i hc
        subst hc
        cases hs
        obtain ⟨k, j, a, b, v⟩ := q
        obtain ⟨e1, e2, e3⟩ := zk_lk_ok hlk hq
        dsimp only at e1 e2
        subst e1; subst e2
        have f1 : zk_ok P (1, 0, v, v) v := ⟨Int.le_refl _, Int.le_refl _, e3.2⟩
        exact lv_ldc2 hx hb hown e3.1 hdg (kk _ P F H locs ls _ (hG.push f1) ⟨zk_sv_last hV f1, zk_sv_mono (zk_le.snoc _ _) hS⟩)
      · cases hs
    · cases hs
  · rename_i idx
    split at hs
    · rename_i q x st' hq
      split at hs
      · rename_i hc
        obtain ⟨rfl, h1, h2, h3, h4, h5⟩ := hc
        cases hs
        obtain ⟨k, j, a, b, v⟩ := q
        obtain ⟨e1, e2, e3⟩ := zk_lk_ok hlk hq
        dsimp only at e1 e2
        subst e1; subst e2
        match sv, hS with
        | vx :: sv', hS =>
          obtain ⟨-, n, na, ev⟩ := hS.1.ref (by omega) h2
          obtain ⟨f, fe1, fe2⟩ := zk_all2_getR hV na
          have hn : 0 ≤ n := by
            unfold zk_kd at h1
            rw [fe1] at h1
            obtain ⟨fk, fr⟩ := f
            match fk, h1, fe2 with
            | k + 3, _, fe2 => exact fe2
          rw [h3, Int.add_zero, if_neg (by omega)] at ev
          subst ev
          refine W.objInit hx hb hown e3.1 e3.2.1 e3.2.2 rfl ?_ rfl hdg (Nat.le_trans h4 hR.1) ?_ ?_
          · obtain ⟨lv, g1, -⟩ := hG.2.2.2.2.2.1
            rw [hml]
            exact g1.1
          · have := zk_cs_ok hS.2
            show 2 * 0 + _ + 12 ≤ R.locals
            rw [this]
            have := hR.2.1
            omega
          · exact kk N P F H locs ls _ hG hS.2
      · cases hs
    · cases hs
  · rename_i idx
    split at hs
    · rename_i q y x st' hq
      split at hs
      · rename_i hc
        obtain ⟨rfl, h1, h2, h3, h4⟩ := hc
        obtain ⟨k, j, a, b, v⟩ := q
        obtain ⟨e1, e2, e3⟩ := zk_lk_ok hlk hq
        dsimp only at e1 e2
        subst e1; subst e2
        dsimp only at hs
        have hls : c.maxLocals = ls.size := by
          obtain ⟨lv, g1, -⟩ := hG.2.2.2.2.2.1
          rw [hml]
          exact g1.1.symm
        have r1 := hR.1
        have r2 := hR.2.1
        have r3 := hR.2.2.1
        have r4 := hR.2.2.2
        match sv, hS with
        | vy :: vx :: sv', hS =>
          have hcs := zk_cs_ok hS.2.2
          match a, e3, hs with
          | 0, e3, hs =>
            rw [if_pos (by omega)] at hs
            split at hs
            · rename_i hc
              obtain ⟨k1, k2⟩ := hc
              cases hs
              obtain ⟨a, rfl, ra, la, ha, -⟩ := hS.2.1.int hV k1
              obtain ⟨b, rfl, rb, lb, hb', -⟩ := hS.1.int hV k2
              have hm : (if Int32.ofInt a < Int32.ofInt b then Int32.ofInt b else Int32.ofInt a) = Int32.ofInt (max a b) := by
                by_cases h : a < b
                · rw [if_pos ((zk_lt32 ra rb).mpr h)]; congr 1; omega
                · rw [if_neg (fun z => h ((zk_lt32 ra rb).mp z))]; congr 1; omega
              have f1 : zk_ok P (0, 0, max (zk_lw κ.1 x) (zk_lw κ.1 y), max (zk_hg κ.1 x) (zk_hg κ.1 y)) (max a b) := ⟨by dsimp only; omega, by dsimp only; omega, by have := ra.1; have := rb.1; have := ra.2; have := rb.2; constructor <;> omega⟩
              refine va_mmax hx hb hls hown e3.1 e3.2.1 e3.2.2.1 e3.2.2.2 (by omega) (by omega) (by omega) (by omega) hdg ?_
              rw [hm]
              exact kk _ P F H locs ls _ (hG.push f1) ⟨zk_sv_last hV f1, zk_sv_mono (zk_le.snoc _ _) hS.2.2⟩
            · cases hs
          | 1, e3, hs =>
            rw [if_pos (by omega)] at hs
            split at hs
            · rename_i hc
              obtain ⟨k1, k2⟩ := hc
              cases hs
              obtain ⟨a, rfl, ra, la, ha, -⟩ := hS.2.1.int hV k1
              obtain ⟨b, rfl, rb, lb, hb', -⟩ := hS.1.int hV k2
              have hm : (if Int32.ofInt b < Int32.ofInt a then Int32.ofInt b else Int32.ofInt a) = Int32.ofInt (min a b) := by
                by_cases h : b < a
                · rw [if_pos ((zk_lt32 rb ra).mpr h)]; congr 1; omega
                · rw [if_neg (fun z => h ((zk_lt32 rb ra).mp z))]; congr 1; omega
              have f1 : zk_ok P (0, 0, min (zk_lw κ.1 x) (zk_lw κ.1 y), min (zk_hg κ.1 x) (zk_hg κ.1 y)) (min a b) := ⟨by dsimp only; omega, by dsimp only; omega, by have := ra.1; have := rb.1; have := ra.2; have := rb.2; constructor <;> omega⟩
              refine va_mmin hx hb hls hown e3.1 e3.2.1 e3.2.2.1 e3.2.2.2 (by omega) (by omega) (by omega) (by omega) hdg ?_
              rw [hm]
              exact kk _ P F H locs ls _ (hG.push f1) ⟨zk_sv_last hV f1, zk_sv_mono (zk_le.snoc _ _) hS.2.2⟩
            · cases hs
          | 2, e3, hs =>
            rw [if_neg (by omega)] at hs
            split at hs
            · rename_i hc
              obtain ⟨k1, k2⟩ := hc
              cases hs
              obtain ⟨a, rfl, ra, la, ha, -⟩ := hS.2.1.long hV k1
              obtain ⟨b, rfl, rb, lb, hb', -⟩ := hS.1.long hV k2
              have hm : (if Int64.ofInt b < Int64.ofInt a then Int64.ofInt a else Int64.ofInt b) = Int64.ofInt (max a b) := by
                by_cases h : b < a
                · rw [if_pos ((zk_lt64 rb ra).mpr h)]; congr 1; omega
                · rw [if_neg (fun z => h ((zk_lt64 rb ra).mp z))]; congr 1; omega
              have f1 : zk_ok P (1, 0, max (zk_lw κ.1 x) (zk_lw κ.1 y), max (zk_hg κ.1 x) (zk_hg κ.1 y)) (max a b) := ⟨by dsimp only; omega, by dsimp only; omega, by have := ra.1; have := rb.1; have := ra.2; have := rb.2; constructor <;> omega⟩
              refine va_mmax_long hx hb hls hown e3.1 e3.2.1 e3.2.2.1 e3.2.2.2 (by omega) (by omega) (by omega) (by omega) hdg ?_
              rw [hm]
              exact kk _ P F H locs ls _ (hG.push f1) ⟨zk_sv_last hV f1, zk_sv_mono (zk_le.snoc _ _) hS.2.2⟩
            · cases hs
          | a + 3, e3, hs =>
            have e9 : ¬ a + 3 = 2 := by omega
            have e8 : ¬ a + 3 < 2 := by omega
            rw [if_neg e8] at hs
            simp only [e9, if_false] at hs
            split at hs
            · rename_i hc
              obtain ⟨k1, k2⟩ := hc
              cases hs
              obtain ⟨a, rfl, ra, la, ha, -⟩ := hS.2.1.long hV k1
              obtain ⟨b, rfl, rb, lb, hb', -⟩ := hS.1.long hV k2
              have f1 : zk_ok P (1, 0, min (zk_lw κ.1 x) (zk_lw κ.1 y), min (zk_hg κ.1 x) (zk_hg κ.1 y)) (min a b) := ⟨by dsimp only; omega, by dsimp only; omega, by have := ra.1; have := rb.1; have := ra.2; have := rb.2; constructor <;> omega⟩
              refine va_mmin_long hx hb hls hown e3.1 e3.2.1 e3.2.2.1 e3.2.2.2 (by omega) (by omega) (by omega) (by omega) hdg ?_
              have hm : ∀ v, v = Int64.ofInt (min a b) → W p l e R s m args below meth c H locs cu su Q (F0 m (pc + 3) ls (.long v :: sv')) := by
                intro v hv
                subst hv
                exact kk _ P F H locs ls _ (hG.push f1) ⟨zk_sv_last hV f1, zk_sv_mono (zk_le.snoc _ _) hS.2.2⟩
              apply hm
              by_cases h : a < b
              · first | (rw [if_pos ((zk_lt64 ra rb).mpr h)]; congr 1; omega) | (rw [if_neg (fun z => absurd ((zk_lt64 rb ra).mp z) (by omega))]; congr 1; omega)
              · by_cases h' : b < a
                · first | (rw [if_neg (fun z => h ((zk_lt64 ra rb).mp z))]; congr 1; omega) | (rw [if_pos ((zk_lt64 rb ra).mpr h')]; congr 1; omega)
                · have : a = b := by omega
                  subst this
                  rw [ite_self]
                  congr 1
                  omega
            · cases hs
      · cases hs
    · cases hs
  · cases hs
end ZK10
end
section
/-! part 11: one cell of the typed heap read, written, added: what is known goes over -/
def zk_mayb (eff : List (Nat × Nat × Nat)) (κ : zk_C) (t k x : Nat) : Bool := κ.2.2.2.2.2.2.contains x || eff.any (fun q => q.1 == t && zk_cov q.2.1 k && (q.2.2 == 0 || κ.2.2.2.2.2.1.any (fun z => z.1 + 1 == q.2.2 && z.2 == x)))
/-- the facts that a write to places lo to hi of a cell of type t leaves -/
def zk_keep (V : List zk_F) (t lo hi : Nat) (z : Nat × Nat × zk_S) : Bool := decide (z.2.1 < lo) || decide (hi < z.2.1) || (match V[z.1]? with
  | some f => f.1 == 2 && f.2.1 != t
  | none => false)
theorem zk_er_lt {k : Nat} (h : k < 1000) : zk_er k = (k, k) := by
  unfold zk_er
  rw [if_neg (by omega), if_neg (by omega)]
section ZK11
variable {p : Program} {l : Launch} {e : Env} {R : Room} {s : State} {m : MethodId} {args : Array Value} {below : List Frame} {meth : Method} {c : Code} {Q : State → Prop}
variable {cc : ByteArray} {w : zk_W} {u : zk_M} {Ts : List Jvm.Cond} {own : String}
theorem zk_same.len {p : Nat → Prop} {e e' : va_E} (h : zk_same p e e') {cA : ClassId} {x : vp_A} (he : e = .inl (cA, x)) : ∃ (cA' : ClassId) (x' : vp_A), e' = .inl (cA', x') ∧ x'.1 = x.1 := by
  subst he
  cases e' with
  | inl a => exact ⟨a.1, a.2, rfl, h.2.1.symm⟩
  | inr o => exact h.elim
theorem zk_obj {P : Nat → Option Nat} {F : Nat → va_E} {H : Heap} (h : zk_wt w s P F H) {a t : Nat} {T : zk_T} (hp : P a = some t) (hT : w.1[t]? = some T) (hs : T.1 = 0) : ∃ fs, F a = .inr (T.2.1, fs) ∧ zk_all2 (zk_fv P) T.2.2.2 fs ∧ va_at w.2.2.1 w.2.1 (a, .inr (T.2.1, fs)) H ∧ w.2.2.2.1 ≤ a := by
  obtain ⟨h1, h2, h3, -⟩ := (zk_wt1.some hT).mp (h a t hp)
  unfold zk_el at h1
  rw [hs] at h1
  obtain ⟨fs, e1, e2⟩ := h1
  rw [e1] at h2
  exact ⟨fs, e1, e2, h2, h3⟩
theorem zk_iarr {P : Nat → Option Nat} {F : Nat → va_E} {H : Heap} (h : zk_wt w s P F H) {a t : Nat} {T : zk_T} (hp : P a = some t) (hT : w.1[t]? = some T) (hs : T.1 = 1 ∨ T.1 = 4) : ∃ cA n f, F a = .inl (cA, n, .inl f) ∧ T.2.1 ≤ n ∧ n ≤ T.2.2.1 ∧ ArrOfT s cA (zk_aty T.1) ∧ (∀ j, j < n → zk_fv P (zk_fj T j) (.int (f j))) ∧ H[a]? = some (vp_cell cA (n, .inl f)) ∧ w.2.2.2.1 ≤ a := by
  obtain ⟨h1, h2, h3, -⟩ := (zk_wt1.some hT).mp (h a t hp)
  unfold zk_el at h1
  rcases hs with hs | hs <;> rw [hs] at h1 ⊢ <;> obtain ⟨cA, n, f, e1, e2⟩ := h1 <;> rw [e1] at h2 <;> exact ⟨cA, n, f, e1, e2.1, e2.2.1, e2.2.2.1, e2.2.2.2, h2, h3⟩
theorem zk_larr {P : Nat → Option Nat} {F : Nat → va_E} {H : Heap} (h : zk_wt w s P F H) {a t : Nat} {T : zk_T} (hp : P a = some t) (hT : w.1[t]? = some T) (hs : T.1 = 2) : ∃ cA n f, F a = .inl (cA, n, .inr (.inl f)) ∧ T.2.1 ≤ n ∧ n ≤ T.2.2.1 ∧ ArrOfT s cA .long ∧ (∀ j, j < n → zk_fv P (zk_fj T j) (.long (f j))) ∧ H[a]? = some (vp_cell cA (n, .inr (.inl f))) ∧ w.2.2.2.1 ≤ a := by
  obtain ⟨h1, h2, h3, -⟩ := (zk_wt1.some hT).mp (h a t hp)
  unfold zk_el at h1
  rw [hs] at h1
  obtain ⟨cA, n, f, e1, e2⟩ := h1
  rw [e1] at h2
  exact ⟨cA, n, f, e1, e2.1, e2.2.1, e2.2.2.1, e2.2.2.2, h2, h3⟩
theorem zk_qarr {P : Nat → Option Nat} {F : Nat → va_E} {H : Heap} (h : zk_wt w s P F H) {a t : Nat} {T : zk_T} (hp : P a = some t) (hT : w.1[t]? = some T) (hs : T.1 = 3) : ∃ cA n f, F a = .inl (cA, n, .inr (.inr (.inr (.inr f)))) ∧ T.2.1 ≤ n ∧ n ≤ T.2.2.1 ∧ ArrOfT s cA (.object (zk_rn w T)) ∧ va_RA s cA (.object (zk_rn w T)) ∧ (∀ j, j < n → zk_fv P (zk_fj T j) (va_rf (f j))) ∧ H[a]? = some (vp_cell cA (n, .inr (.inr (.inr (.inr f))))) ∧ w.2.2.2.1 ≤ a := by
  obtain ⟨h1, h2, h3, -⟩ := (zk_wt1.some hT).mp (h a t hp)
  unfold zk_el at h1
  rw [hs] at h1
  obtain ⟨cA, n, f, e1, e2⟩ := h1
  rw [e1] at h2
  exact ⟨cA, n, f, e1, e2.1, e2.2.1, e2.2.2.1, e2.2.2.2.1, e2.2.2.2.2, h2, h3⟩
/-- any array: its length, its cell -/
theorem zk_aarr {P : Nat → Option Nat} {F : Nat → va_E} {H : Heap} (h : zk_wt w s P F H) {a t : Nat} {T : zk_T} (hp : P a = some t) (hT : w.1[t]? = some T) (hs : T.1 = 1 ∨ T.1 = 2 ∨ T.1 = 3 ∨ T.1 = 4) : ∃ cA x ty, F a = .inl (cA, x) ∧ T.2.1 ≤ x.1 ∧ x.1 ≤ T.2.2.1 ∧ ArrOfT s cA ty ∧ H[a]? = some (vp_cell cA x) := by
  rcases hs with hs | hs | hs | hs
  · obtain ⟨cA, n, f, e1, e2, e3, e4, e5, e6, e7⟩ := zk_iarr h hp hT (Or.inl hs)
    exact ⟨cA, _, _, e1, e2, e3, e4, e6⟩
  · obtain ⟨cA, n, f, e1, e2, e3, e4, e5, e6, e7⟩ := zk_larr h hp hT hs
    exact ⟨cA, _, _, e1, e2, e3, e4, e6⟩
  · obtain ⟨cA, n, f, e1, e2, e3, e4, e4', e5, e6, e7⟩ := zk_qarr h hp hT hs
    exact ⟨cA, _, _, e1, e2, e3, e4, e6⟩
  · obtain ⟨cA, n, f, e1, e2, e3, e4, e5, e6, e7⟩ := zk_iarr h hp hT (Or.inr hs)
    exact ⟨cA, _, _, e1, e2, e3, e4, e6⟩
theorem zk_ef_put {eff : List (Nat × Nat × Nat)} {ps : List Int} {P0 P : Nat → Option Nat} {F0 F : Nat → va_E} (h : zk_ef eff ps P0 F0 F) (hext : ∀ a t, P0 a = some t → P a = some t) {a t : Nat} {Pk : Nat → Prop} {e' : va_E} (hp : P a = some t) (hs : zk_same Pk (F a) e') (hm : P0 a = none ∨ ∀ k, Pk k → zk_may eff ps a t k) : zk_ef eff ps P0 F0 (zk_up F a e') := by
  intro b t0 hb
  by_cases e1 : b = a
  · subst e1
    rw [zk_up_self]
    cases hp.symm.trans (hext b t0 hb)
    refine (h b t hb).trans (hs.mono (fun j hj => ?_))
    rcases hm with hm | hm
    · rw [hm] at hb; cases hb
    · exact hm j hj
  · rw [zk_up_ne e1]
    exact h b t0 hb
theorem zk_mayb_ok {eff : List (Nat × Nat × Nat)} {κ : zk_C} {t k x : Nat} (h : zk_mayb eff κ t k x = true) {N : List Int} {ps : List Int} {P0 : Nat → Option Nat} (hpa : zk_pa N ps κ.2.2.2.2.2.1) (hfr : zk_fr N P0 κ.2.2.2.2.2.2) {n : Int} (hn : N[x]? = some n) (h0 : 0 ≤ n) : P0 n.toNat = none ∨ ∀ j, zk_pm k j → zk_may eff ps n.toNat t j := by
  unfold zk_mayb at h
  rcases Bool.or_eq_true _ _ ▸ h with h | h
  · obtain ⟨n', e1, e2, e3⟩ := hfr x (by simpa using h)
    cases hn.symm.trans e1
    exact Or.inl e3
  · obtain ⟨q, hq, h1⟩ := List.any_eq_true.mp h
    simp only [Bool.and_eq_true, beq_iff_eq, Bool.or_eq_true] at h1
    obtain ⟨⟨h2, h3⟩, h4⟩ := h1
    refine Or.inr (fun j hj => ⟨q, hq, h2, zk_cov_ok h3 hj, ?_⟩)
    rcases h4 with h4 | h4
    · exact Or.inl h4
    · obtain ⟨z, hz, h5⟩ := List.any_eq_true.mp h4
      simp only [Bool.and_eq_true, beq_iff_eq] at h5
      obtain ⟨n', e1, e2⟩ := hpa z hz
      rw [h5.2, hn] at e1
      cases e1
      refine Or.inr ?_
      rw [← h5.1, Nat.add_sub_cancel, e2]
      congr 1
      omega
theorem zk_fa1_keep {V : List zk_F} {N : List Int} {P : Nat → Option Nat} {F : Nat → va_E} (hV : zk_all2 (zk_ok P) V N) {z : Nat × Nat × zk_S} (h : zk_fa1 V N P F z.1 z.2.1 z.2.2) {a t lo hi : Nat} {e' : va_E} (hp : P a = some t) (hs : zk_same (fun j => lo ≤ j ∧ j ≤ hi) (F a) e') (hk : zk_keep V t lo hi z = true) : zk_fa1 V N P (zk_up F a e') z.1 z.2.1 z.2.2 := by
  obtain ⟨n, t', v, h1, h2, h3, h4, h5⟩ := h
  refine ⟨n, t', v, h1, h2, h3, ?_, h5⟩
  by_cases e1 : n.toNat = a
  · rw [e1, zk_up_self]
    rw [e1] at h4 h3
    cases hp.symm.trans h3
    rw [hs.rd ?_]
    · exact h4
    · intro hz
      unfold zk_keep at hk
      simp only [Bool.or_eq_true, decide_eq_true_eq] at hk
      rcases hk with hk | hk
      · omega
      · obtain ⟨f, f1, f2⟩ := zk_all2_getR hV h1
        rw [f1] at hk
        simp only [Bool.and_eq_true, beq_iff_eq, bne_iff_ne] at hk
        obtain ⟨fk, ft, fl, fh⟩ := f
        obtain ⟨rfl, hk2⟩ := hk
        have f2 : _ ∧ _ ∧ _ ∧ (0 ≤ n → P n.toNat = some ft) := f2
        have := f2.2.2.2 h2
        rw [e1, hp] at this
        cases this
        exact hk2 rfl
  · rw [zk_up_ne e1]
    exact h4
/-- a typed cell is written -/
theorem zk_G.write {κ : zk_C} {N : List Int} {P : Nat → Option Nat} {F : Nat → va_E} {H H1 : Heap} {locs L : List Loc} {ls : Array Slot} (h : zk_G w s u κ N P F H locs ls) {a t : Nat} {Pk : Nat → Prop} {T : zk_T} {e' : va_E} (hp : P a = some t) (hT : w.1[t]? = some T) (hel : zk_el w s P T e') (hat : va_at w.2.2.1 w.2.1 (a, e') H1) (hz : H1.size = H.size) (hk : ∀ q, q ≠ a → H1[q]? = H[q]?) (hL : ∀ q ∈ L, q.base = a) (hs : zk_same Pk (F a) e') (hm : u.1 a = none ∨ ∀ k, Pk k → zk_may u.2.2.2.1 u.2.2.1 a t k) (hr : zk_rl P (zk_up F a e') t e') {A : List (Nat × Nat × zk_S)} (hA : zk_fa κ.1 N P (zk_up F a e') A) : zk_G w s u (κ.1, κ.2.1, A, κ.2.2.2) N P (zk_up F a e') H1 (locs ++ L) ls := by
  obtain ⟨h1, h2, h3, h4, h5, h6, h7, h8, h9, h10, h11, h12, h13⟩ := h
  refine ⟨h1, h2, hA, ?_, h5.put hp hT hel hat hk (fun cA x h => hs.len h) hr, h6, h7, zk_ef_put h8 h7 hp hs hm, ?_, h10, h11, h12, fun q g1 g2 => ⟨(h13 q g1 g2).1, (hk q (fun e1 => by rw [e1] at g1 g2; rw [(h13 a g1 g2).1] at hp; cases hp)).trans (h13 q g1 g2).2⟩⟩
  · rw [hz]
    refine h4.kept (fun n _ hn => ⟨hn, hk n ?_⟩)
    intro e1
    subst e1
    rw [hp] at hn
    cases hn
  · have hb : w.2.2.2.1 ≤ a := ((zk_wt1.some hT).mp (h5 a t hp)).2.2.1
    refine ⟨by rw [hz]; exact h9.1, fun q g1 g2 => ?_, fun q hq => ?_⟩
    · rw [hk q (fun e1 => g2 (by rw [e1]; exact hb))]
      exact h9.2.1 q g1 g2
    · rcases List.mem_append.mp hq with g | g
      · exact h9.2.2 q g
      · rw [hL q g]; exact hb
/-- a new typed cell -/
theorem zk_G.alloc {κ : zk_C} {N : List Int} {P : Nat → Option Nat} {F : Nat → va_E} {H H1 : Heap} {locs : List Loc} {ls : Array Slot} (h : zk_G w s u κ N P F H locs ls) (hbs : w.2.2.2.1 ≤ s.heap.size) {t : Nat} {T : zk_T} {e' : va_E} (hT : w.1[t]? = some T) (hel : zk_el w s P T e') (hat : va_at w.2.2.1 w.2.1 (H.size, e') H1) (hz : H1.size = H.size + 1) (hk : ∀ q, q < H.size → H1[q]? = H[q]?) (hr : zk_rl (zk_up P H.size (some t)) (zk_up F H.size e') t e') {A : List (Nat × Nat × zk_S)} (hA : ∀ q ∈ A, ∃ v, q.1 = κ.1.length ∧ zk_rd e' q.2.1 = some v ∧ zk_sv κ.1 N q.2.2 v) :
    zk_G w s u (κ.1 ++ [(2, t, 0, 0)], κ.2.1, A ++ κ.2.2.1, κ.2.2.2.1, κ.2.2.2.2.1, κ.2.2.2.2.2.1, κ.1.length :: κ.2.2.2.2.2.2) (N ++ [(H.size : Int)]) (zk_up P H.size (some t)) (zk_up F H.size e') H1 locs ls := by
  obtain ⟨h1, h2, h3, h4, h5, h6, h7, h8, h9, h10, h11, h12, h13⟩ := h
  have hbH : w.2.2.2.1 ≤ H.size := Nat.le_trans hbs h9.1
  have hPn : P H.size = none := by
    cases hp : P H.size with
    | none => rfl
    | some t' => exact absurd (h5.lt hbH hp) (Nat.lt_irrefl _)
  have hext := zk_up_ext (t := t) hPn
  have hl := zk_le.snoc (V := κ.1) (N := N) (2, t, 0, 0) (H.size : Int)
  have hlen := zk_all2_len h1
  have hlast : (N ++ [(H.size : Int)])[κ.1.length]? = some (H.size : Int) := by rw [hlen]; exact zk_get_last
  have hnew : zk_ok (zk_up P H.size (some t)) (2, t, 0, 0) (H.size : Int) := ⟨Int.natCast_nonneg _, by show (-1 : Int) ≤ _; omega, fun q => absurd q (show ¬ (0 : Int) < 0 by decide), fun _ => by rw [Int.toNat_natCast, zk_up_self]⟩
  refine ⟨zk_all2_snoc hnew (zk_all2_imp (fun f n q => q.ext hext) h1), h2.le hl, fun q hq => ?_, ?_, ?_, h6.le hl, fun a t' q => hext a t' (h7 a t' q), fun b t0 hb0 => ?_, ⟨by rw [hz]; exact Nat.le_succ_of_le h9.1, fun q g1 g2 => ?_, h9.2.2⟩, fun q hq => (h10 q hq).imp fun n z => ⟨hl.1 _ _ z.1, z.2⟩, fun q hq => ?_, fun i n z => hl.1 _ _ (h12 i n z), fun q g1 g2 => ⟨by rw [zk_up_ne (Nat.ne_of_lt (Nat.lt_of_lt_of_le g1 h9.1))]; exact (h13 q g1 g2).1, (hk q (Nat.lt_of_lt_of_le g1 h9.1)).trans (h13 q g1 g2).2⟩⟩
  · rcases List.mem_append.mp hq with g | g
    · obtain ⟨v, e1, e2, e3⟩ := hA q g
      refine ⟨(H.size : Int), t, v, by rw [e1]; exact hlast, Int.natCast_nonneg _, ?_, ?_, hl.2 _ _ e3⟩
      · rw [Int.toNat_natCast, zk_up_self]
      · rw [Int.toNat_natCast, zk_up_self]; exact e2
    · obtain ⟨n, t', v, e1, e2, e3, e4, e5⟩ := h3 q g
      refine ⟨n, t', v, hl.1 _ _ e1, e2, hext _ _ e3, ?_, hl.2 _ _ e5⟩
      rw [zk_up_ne (Nat.ne_of_lt (h5.lt hbH e3))]
      exact e4
  · rw [hz]
    refine zk_rw.mono (Nat.le_succ _) ((h4.kept (fun n hn hpn => ⟨?_, hk n hn⟩)).le hl)
    rw [zk_up_ne (Nat.ne_of_lt hn)]
    exact hpn
  · have hk5 : zk_wt w s P F H1 := h5.kept (fun q t' hq _ => hk q (h5.lt hbH hq))
    exact hk5.add hPn hT (hel.ext hext) hat hbH hr
  · have := h7 b t0 hb0
    rw [zk_up_ne (Nat.ne_of_lt (h5.lt hbH this))]
    exact h8 b t0 hb0
  · rw [hk q (Nat.lt_of_lt_of_le g1 h9.1)]
    exact h9.2.1 q g1 g2
  · rcases List.mem_cons.mp hq with rfl | g
    · refine ⟨(H.size : Int), hlast, Int.natCast_nonneg _, ?_⟩
      rw [Int.toNat_natCast]
      cases hp0 : u.1 H.size with
      | none => rfl
      | some t' => exact absurd (h5.lt hbH (h7 _ _ hp0)) (Nat.lt_irrefl _)
    · obtain ⟨n, e1, e2⟩ := h11 q g
      exact ⟨n, hl.1 _ _ e1, e2⟩
/-- a new object, not yet made -/
theorem zk_G.raw {κ : zk_C} {N : List Int} {P : Nat → Option Nat} {F : Nat → va_E} {H H1 : Heap} {locs : List Loc} {ls : Array Slot} (h : zk_G w s u κ N P F H locs ls) (hbs : w.2.2.2.1 ≤ s.heap.size) {ci : Nat} {fs : List Value} {ds : List zk_S} (hat : va_at w.2.2.1 w.2.1 (H.size, .inr (ci, fs)) H1) (hds : zk_all2 (zk_sv κ.1 N) ds fs) (hz : H1.size = H.size + 1) (hk : ∀ q, q < H.size → H1[q]? = H[q]?) :
    zk_G w s u (κ.1 ++ [(3, 0, 0, 0)], κ.2.1, κ.2.2.1, (κ.1.length, ci, ds) :: κ.2.2.2.1, κ.2.2.2.2.1, κ.2.2.2.2.2.1, κ.1.length :: κ.2.2.2.2.2.2) (N ++ [(H.size : Int)]) P F H1 locs ls := by
  obtain ⟨h1, h2, h3, h4, h5, h6, h7, h8, h9, h10, h11, h12, h13⟩ := h
  have hbH : w.2.2.2.1 ≤ H.size := Nat.le_trans hbs h9.1
  have hPn : P H.size = none := by
    cases hp : P H.size with
    | none => rfl
    | some t' => exact absurd (h5.lt hbH hp) (Nat.lt_irrefl _)
  have hl := zk_le.snoc (V := κ.1) (N := N) (3, 0, 0, 0) (H.size : Int)
  have hlen := zk_all2_len h1
  have hlast : (N ++ [(H.size : Int)])[κ.1.length]? = some (H.size : Int) := by rw [hlen]; exact zk_get_last
  have hnew : zk_ok P (3, 0, 0, 0) (H.size : Int) := Int.natCast_nonneg _
  refine ⟨zk_all2_snoc hnew h1, h2.le hl, fun q hq => (h3 q hq).le hl, ?_, h5.kept (fun q t' hq _ => hk q (h5.lt hbH hq)), h6.le hl, h7, h8, ⟨by rw [hz]; exact Nat.le_succ_of_le h9.1, fun q g1 g2 => ?_, h9.2.2⟩, fun q hq => (h10 q hq).imp fun n z => ⟨hl.1 _ _ z.1, z.2⟩, fun q hq => ?_, fun i n z => hl.1 _ _ (h12 i n z), fun q g1 g2 => ⟨(h13 q g1 g2).1, (hk q (Nat.lt_of_lt_of_le g1 h9.1)).trans (h13 q g1 g2).2⟩⟩
  · rw [hz]
    exact ⟨H.size, fs, hlast, Nat.lt_succ_self _, ⟨hbH, fun z => absurd z.1 (Nat.not_lt.mpr h9.1)⟩, hPn, hat, zk_all2_imp hl.2 hds, (h4.kept (fun n hn hpn => ⟨hpn, hk n hn⟩)).le hl⟩
  · rw [hk q (Nat.lt_of_lt_of_le g1 h9.1)]
    exact h9.2.1 q g1 g2
  · rcases List.mem_cons.mp hq with rfl | g
    · refine ⟨(H.size : Int), hlast, Int.natCast_nonneg _, ?_⟩
      rw [Int.toNat_natCast]
      cases hp0 : u.1 H.size with
      | none => rfl
      | some t' => exact absurd (h5.lt hbH (h7 _ _ hp0)) (Nat.lt_irrefl _)
    · obtain ⟨n, e1, e2⟩ := h11 q g
      exact ⟨n, hl.1 _ _ e1, e2⟩
end ZK11
end
section
/-! part 12: steps on cells -/
def zk_typ (ty : List zk_T) (κ : zk_C) (q : zk_S) : Option (Nat × zk_T) := match κ.1[q.1]? with
  | some f => if f.1 = 2 ∧ 0 ≤ f.2.2.1 ∧ q.2 = 0 then (ty[f.2.1]?).map (fun T => (f.2.1, T)) else none
  | none => none
def zk_fnd (κ : zk_C) (x k : Nat) : Option zk_S := (κ.2.2.1.find? (fun z => z.1 == x && z.2.1 == k)).map (fun z => z.2.2)
def zk_ltb (κ : zk_C) (q r : zk_S) : Bool := decide (zk_hg κ.1 q < zk_lw κ.1 r) || (q.1 == r.1 && decide (q.2 < r.2)) || κ.2.1.any (fun d => d.1 == q.1 && d.2.1 == r.1 && decide (d.2.2 + q.2 < r.2))
/-- an array is a field of an object whose own inequality bounds the index -/
def zk_ixr (κ : zk_C) (qi qa : zk_S) : Bool := zk_kd κ.1 qa == 2 && κ.2.2.1.any (fun z => z.2.2.1 == qa.1 && z.2.2.2 == 0 && (match κ.1[z.1]? with
  | some f => f.1 == 2 && zk_rel.any (fun r => r.1 == f.2.1 && r.2.2 == z.2.1 && decide (r.2.1 < 1000) && (match zk_fnd κ z.1 r.2.1 with
    | some c => zk_kd κ.1 c == 0 && zk_ltb κ qi c
    | none => false))
  | none => false))
/-- .. or the number of what is copied -/
def zk_cinl (κ : zk_C) (c : zk_S) : Option zk_S := if zk_kd κ.1 c = 0 then some c else if zk_kd κ.1 c = 2 ∧ c.2 = 0 then zk_fnd κ c.1 1000 else none
def zk_cinr (κ : zk_C) (n x : zk_S) : Bool := zk_kd κ.1 x == 2 && κ.2.2.1.any (fun z => z.2.2.1 == x.1 && z.2.2.2 == 0 && (match κ.1[z.1]? with
  | some f => f.1 == 2 && zk_rel.any (fun r => r.1 == f.2.1 && r.2.2 == z.2.1 && decide (r.2.1 < 1000) && (match zk_fnd κ z.1 r.2.1 with
    | some c => (match zk_cinl κ c with
      | some L => zk_kd κ.1 L == 0 && L.1 == n.1 && decide (n.2 ≤ L.2)
      | none => false)
    | none => false))
  | none => false))
/-- a number that a field bound by an inequality may be set to -/
def zk_relq (κ : zk_C) (t x : Nat) (qv : zk_S) (j : Nat) : Bool := κ.2.2.1.any (fun z => z.1 == x && z.2.1 != 1000 && (z.2.1 == j || zk_rel.contains (t, z.2.1, j)) && zk_kd κ.1 z.2.2 == 2 && (match zk_fnd κ z.2.2.1 1000 with
  | some L => z.2.2.2 == 0 && zk_kd κ.1 L == 0 && zk_ltb κ qv (L.1, L.2 + 1)
  | none => false))
def zk_relp (κ : zk_C) (t k x : Nat) (qv : zk_S) : Bool := zk_rel.all (fun r => r.1 != t || (r.2.2 != k && (r.2.1 != k || (zk_kd κ.1 qv == 0 && zk_relq κ t x qv r.2.2))))
def zk_ix (κ : zk_C) (qi qa : zk_S) (T : zk_T) : Bool := zk_kd κ.1 qi == 0 && decide (0 ≤ zk_lw κ.1 qi) && decide (T.2.2.1 ≤ 2147483647) && (decide (zk_hg κ.1 qi < (T.2.1 : Int)) || ((match zk_fnd κ qa.1 1000 with
  | some r => zk_kd κ.1 r == 0 && zk_ltb κ qi r
  | none => false) || zk_ixr κ qi qa))
def zk_fits (V : List zk_F) (q : zk_S) (f : zk_F) : Bool := match V[q.1]? with
  | some g => if f.1 < 2 then g.1 == f.1 && decide (f.2.2.1 ≤ g.2.2.1 + q.2) && decide (g.2.2.2 + q.2 ≤ f.2.2.2)
    else f.1 == 2 && g.1 == 2 && q.2 == 0 && (if g.2.2.2 < 0 then decide (f.2.2.1 ≤ -1) else g.2.1 == f.2.1 && decide (f.2.2.1 ≤ g.2.2.1) && decide (0 ≤ f.2.2.2))
  | none => false
def zk_tyb (c : Int) (V : List zk_F) (q : zk_S) : Bool :=
  if c = 1 then zk_kd V q == 1 else if c = 2 then decide (2 ≤ zk_kd V q) && decide (zk_kd V q < 99) else zk_kd V q == 0 && (if c = 0 then true else if c = 3 then decide (0 ≤ zk_lw V q) && decide (zk_hg V q ≤ 1) else if c = 4 then decide (-128 ≤ zk_lw V q) && decide (zk_hg V q ≤ 127) else false)
def zk_rwset : List (Nat × Nat × List zk_S) → Nat → Nat → zk_S → List (Nat × Nat × List zk_S)
  | [], _, _, _ => []
  | q :: r, x, k, z => if q.1 = x then (q.1, q.2.1, q.2.2.set k z) :: r else q :: zk_rwset r x k z
def zk_getR (ty : List zk_T) (lk : List zk_L) (κ : zk_C) (idx : Nat) (q : zk_S) : Option (zk_C × zk_S) := match zk_lk lk 2 idx, κ.1[q.1]? with
  | some e, some f =>
    if f.1 = 2 then (match zk_typ ty κ q with
      | some (_, T) => if T.1 = 0 ∧ T.2.1 = e.2.2.1 then (match zk_fnd κ q.1 e.2.2.2.1 with
        | some r => some (κ, r)
        | none => match T.2.2.2[e.2.2.2.1]? with
          | some ft => if ft.1 < 3 then some ((κ.1 ++ [ft], κ.2.1, (q.1, e.2.2.2.1, (κ.1.length, 0)) :: κ.2.2.1, κ.2.2.2), (κ.1.length, 0)) else none
          | none => none) else none
      | none => none)
    else if f.1 = 3 ∧ q.2 = 0 then (match κ.2.2.2.1.find? (fun z => z.1 == q.1) with
      | some z => if z.2.1 = e.2.2.1 then (z.2.2[e.2.2.2.1]?).map (fun r => (κ, r)) else none
      | none => none)
    else none
  | _, _ => none
def zk_putR (ty : List zk_T) (lk : List zk_L) (eff : List (Nat × Nat × Nat)) (ini : Bool) (κ : zk_C) (idx : Nat) (qv q : zk_S) : Option zk_C := match zk_lk lk 2 idx, κ.1[q.1]? with
  | some e, some f =>
    if zk_tyb (e.2.2.2.2 % 16) κ.1 qv = true then
      if f.1 = 2 then (match zk_typ ty κ q with
        | some (t, T) => match T.2.2.2[e.2.2.2.1]? with
          | some ft => if T.1 = 0 ∧ T.2.1 = e.2.2.1 ∧ zk_fits κ.1 qv ft = true ∧ e.2.2.2.2 < 16 ∧ zk_mayb eff κ t e.2.2.2.1 q.1 = true ∧ zk_relp κ t e.2.2.2.1 q.1 qv = true ∧ e.2.2.2.1 < 1000 then some (κ.1, κ.2.1, (q.1, e.2.2.2.1, qv) :: κ.2.2.1.filter (zk_keep κ.1 t e.2.2.2.1 e.2.2.2.1), κ.2.2.2) else none
          | none => none
        | none => none)
      else if f.1 = 3 ∧ q.2 = 0 then (match κ.2.2.2.1.find? (fun z => z.1 == q.1) with
        | some z => if z.2.1 = e.2.2.1 ∧ e.2.2.2.1 < z.2.2.length ∧ (e.2.2.2.2 < 16 ∨ (ini = true ∧ e.2.2.2.2 < 32)) then some (κ.1, κ.2.1, κ.2.2.1, zk_rwset κ.2.2.2.1 q.1 e.2.2.2.1 qv, κ.2.2.2.2) else none
        | none => none)
      else none
    else none
  | _, _ => none
section ZK12
variable {p : Program} {l : Launch} {e : Env} {R : Room} {s : State} {m : MethodId} {args : Array Value} {below : List Frame} {meth : Method} {c : Code} {Q : State → Prop}
variable {cc : ByteArray} {w : zk_W} {u : zk_M} {Ts : List Jvm.Cond} {own : String}
theorem zk_typ_ok {ty : List zk_T} (hw : w.1 = ty) {κ : zk_C} {N : List Int} {P : Nat → Option Nat} (hV : zk_all2 (zk_ok P) κ.1 N) {q : zk_S} {t : Nat} {T : zk_T} (h : zk_typ ty κ q = some (t, T)) {v : Value} (hv : zk_sv κ.1 N q v) : ∃ a : Nat, v = .ref a ∧ N[q.1]? = some (a : Int) ∧ P a = some t ∧ w.1[t]? = some T := by
  unfold zk_typ at h
  split at h
  · rename_i f hf
    split at h
    · rename_i hc
      obtain ⟨h1, h2, h3⟩ := hc
      obtain ⟨T', e1, e2⟩ := Option.map_eq_some_iff.mp h
      cases e2
      obtain ⟨n, e3, e4⟩ := zk_all2_get hV hf
      obtain ⟨g, n', g1, g2, g3, g4⟩ := hv
      cases hf.symm.trans g1
      cases e3.symm.trans g2
      obtain ⟨fk, ft, fl, fh⟩ := f
      dsimp only at h1 h2 e1 g4
      subst h1
      have e4 : fl ≤ n ∧ -1 ≤ n ∧ (fh < 0 → n < 0) ∧ (0 ≤ n → P n.toNat = some ft) := e4
      rw [h3, Int.add_zero] at g4
      refine ⟨n.toNat, ?_, ?_, e4.2.2.2 (by omega), by rw [hw]; exact e1⟩
      · rw [g4]
        show (if n < 0 then Value.null else Value.ref n.toNat) = _
        rw [if_neg (by omega)]
      · rw [e3]
        congr 1
        omega
    · cases h
  · cases h
theorem zk_fnd_ok {κ : zk_C} {N : List Int} {P : Nat → Option Nat} {F : Nat → va_E} (hF : zk_fa κ.1 N P F κ.2.2.1) {x k : Nat} {r : zk_S} (h : zk_fnd κ x k = some r) {a : Nat} (ha : N[x]? = some (a : Int)) : ∃ v, zk_rd (F a) k = some v ∧ zk_sv κ.1 N r v := by
  unfold zk_fnd at h
  obtain ⟨z, h1, h2⟩ := Option.map_eq_some_iff.mp h
  have h3 := List.find?_some h1
  simp only [Bool.and_eq_true, beq_iff_eq] at h3
  obtain ⟨n, t, v, g1, g2, g3, g4, g5⟩ := hF z (List.mem_of_find?_eq_some h1)
  rw [h3.1, ha] at g1
  cases g1
  rw [h3.2, Int.toNat_natCast] at g4
  exact ⟨v, g4, h2 ▸ g5⟩
theorem zk_ltb_ok {κ : zk_C} {N : List Int} (hD : zk_df N κ.2.1) {q r : zk_S} (h : zk_ltb κ q r = true) {a b : Int} (ha : N[q.1]? = some a) (hb : N[r.1]? = some b) (h1 : a + q.2 ≤ zk_hg κ.1 q) (h2 : zk_lw κ.1 r ≤ b + r.2) : a + q.2 < b + r.2 := by
  unfold zk_ltb at h
  simp only [Bool.or_eq_true, Bool.and_eq_true, beq_iff_eq, decide_eq_true_eq] at h
  rcases h with (h | h) | h
  · omega
  · rw [h.1, hb] at ha
    cases ha
    have := h.2
    omega
  · obtain ⟨d, hd, h3⟩ := List.any_eq_true.mp h
    simp only [Bool.and_eq_true, beq_iff_eq, decide_eq_true_eq] at h3
    obtain ⟨n, k, g1, g2, g3⟩ := hD d hd
    rw [h3.1.1, ha] at g1
    rw [h3.1.2, hb] at g2
    cases g1
    cases g2
    have := h3.2
    omega
theorem zk_n32 {n : Nat} (h : n ≤ 2147483647) : Int32.ofNat n = Int32.ofInt (n : Int) := rfl
theorem zk_ixr_ok {κ : zk_C} {N : List Int} {P : Nat → Option Nat} {F : Nat → va_E} {H : Heap} {locs : List Loc} {ls : Array Slot} (hG : zk_G w s u κ N P F H locs ls) {qi qa : zk_S} (h : zk_ixr κ qi qa = true) {k : Int} (hk : N[qi.1]? = some k) (hh : k + qi.2 ≤ zk_hg κ.1 qi) {a : Nat} (ha : N[qa.1]? = some (a : Int)) {cA : ClassId} {x : vp_A} (hF : F a = .inl (cA, x)) : k + qi.2 < x.1 := by
  unfold zk_ixr at h
  rw [Bool.and_eq_true, beq_iff_eq] at h
  obtain ⟨h0, h⟩ := h
  obtain ⟨z, z1, z2⟩ := List.any_eq_true.mp h
  rw [Bool.and_eq_true, Bool.and_eq_true, beq_iff_eq, beq_iff_eq] at z2
  obtain ⟨⟨z3, z4⟩, z5⟩ := z2
  split at z5
  · rename_i f hf
    rw [Bool.and_eq_true, beq_iff_eq] at z5
    obtain ⟨z6, z7⟩ := z5
    obtain ⟨r, r1, r2⟩ := List.any_eq_true.mp z7
    rw [Bool.and_eq_true, Bool.and_eq_true, Bool.and_eq_true, beq_iff_eq, beq_iff_eq, decide_eq_true_eq] at r2
    obtain ⟨⟨⟨r3, r4⟩, r5⟩, r6⟩ := r2
    split at r6
    · rename_i c hc
      rw [Bool.and_eq_true, beq_iff_eq] at r6
      obtain ⟨r7, r8⟩ := r6
      obtain ⟨n, t, v, g1, g2, g3, g4, g5⟩ := hG.2.2.1 z z1
      obtain ⟨n', y1, y2⟩ := zk_all2_get hG.1 hf
      cases g1.symm.trans y1
      have ht : f.2.1 = t := by
        obtain ⟨fk, fr⟩ := f
        dsimp only at z6
        subst z6
        have := y2.2.2.2 g2
        rw [g3] at this
        cases this
        rfl
      have hn : (n.toNat : Int) = n := Int.toNat_of_nonneg g2
      obtain ⟨v1, c1, c2⟩ := zk_fnd_ok hG.2.2.1 hc (a := n.toNat) (by rw [hn]; exact g1)
      cases hT : w.1[t]? with
      | none =>
        have := List.all_eq_true.mp ((zk_wt1.none hT).mp (hG.2.2.2.2.1 _ _ g3)).2.2 r r1
        rw [bne_iff_ne] at this
        exact absurd (r3.trans ht) this
      | some T =>
        have hrl := ((zk_wt1.some hT).mp (hG.2.2.2.2.1 _ _ g3)).2.2.2
        cases hFn : F n.toNat with
        | inl y =>
          rw [hFn] at c1
          unfold zk_rd at c1
          dsimp only at c1
          rw [if_neg (by omega), if_neg (by omega)] at c1
          cases c1
        | inr o =>
          rw [hFn] at hrl c1 g4
          obtain ⟨w1, w2, n1, n2, d1, d2, d3, d4, d5⟩ := hrl r r1 (r3.trans ht)
          rw [r4] at d2
          have c1 : o.2[r.2.1]? = some v1 := c1
          have g4 : o.2[z.2.1]? = some v := g4
          rw [d1] at c1
          cases c1
          rw [d2] at g4
          cases g4
          obtain ⟨g0, m, y3, y4, y5, y6⟩ := g5
          rw [z4] at y6
          rw [z3] at y3 y4
          rw [ha] at y4
          cases y4
          have hk2 : g0.1 = 2 := by
            unfold zk_kd at h0
            rw [y3] at h0
            exact h0
          rw [hk2, Int.add_zero, zk_mk_ref (Nat.le_refl _), if_neg (by omega), Int.toNat_natCast] at y6
          subst y6
          obtain ⟨-, cA', x', x1, x2, -⟩ := d4
          rw [hF] at x1
          cases x1
          obtain ⟨j, f1, f2, f3, f4, k', f5, f6⟩ := c2.int hG.1 r7
          subst f1
          have d3 : (Int32.ofInt j).toInt = n1 := d3
          rw [zk_i32 f2] at d3
          have := zk_ltb_ok hG.2.1 r8 hk f5 hh (by omega)
          omega
    · cases r6
  · cases z5
theorem zk_cinr_ok {κ : zk_C} {N : List Int} {P : Nat → Option Nat} {F : Nat → va_E} {H : Heap} {locs : List Loc} {ls : Array Slot} (hG : zk_G w s u κ N P F H locs ls) {qi qa : zk_S} (h : zk_cinr κ qi qa = true) {k : Int} (hk : N[qi.1]? = some k) {a : Nat} (ha : N[qa.1]? = some (a : Int)) {cA : ClassId} {x : vp_A} (hF : F a = .inl (cA, x)) : k + qi.2 ≤ x.1 := by
  unfold zk_cinr at h
  rw [Bool.and_eq_true, beq_iff_eq] at h
  obtain ⟨h0, h⟩ := h
  obtain ⟨z, z1, z2⟩ := List.any_eq_true.mp h
  rw [Bool.and_eq_true, Bool.and_eq_true, beq_iff_eq, beq_iff_eq] at z2
  obtain ⟨⟨z3, z4⟩, z5⟩ := z2
  split at z5
  · rename_i f hf
    rw [Bool.and_eq_true, beq_iff_eq] at z5
    obtain ⟨z6, z7⟩ := z5
    obtain ⟨r, r1, r2⟩ := List.any_eq_true.mp z7
    rw [Bool.and_eq_true, Bool.and_eq_true, Bool.and_eq_true, beq_iff_eq, beq_iff_eq, decide_eq_true_eq] at r2
    obtain ⟨⟨⟨r3, r4⟩, r5⟩, r6⟩ := r2
    split at r6
    · rename_i c hc
      split at r6
      rotate_left
      · cases r6
      rename_i L hL
      rw [Bool.and_eq_true, Bool.and_eq_true, beq_iff_eq, beq_iff_eq, decide_eq_true_eq] at r6
      obtain ⟨⟨r7, r8⟩, r9⟩ := r6
      obtain ⟨n, t, v, g1, g2, g3, g4, g5⟩ := hG.2.2.1 z z1
      obtain ⟨n', y1, y2⟩ := zk_all2_get hG.1 hf
      cases g1.symm.trans y1
      have ht : f.2.1 = t := by
        obtain ⟨fk, fr⟩ := f
        dsimp only at z6
        subst z6
        have := y2.2.2.2 g2
        rw [g3] at this
        cases this
        rfl
      have hn : (n.toNat : Int) = n := Int.toNat_of_nonneg g2
      obtain ⟨v1, c1, c2⟩ := zk_fnd_ok hG.2.2.1 hc (a := n.toNat) (by rw [hn]; exact g1)
      cases hT : w.1[t]? with
      | none =>
        have := List.all_eq_true.mp ((zk_wt1.none hT).mp (hG.2.2.2.2.1 _ _ g3)).2.2 r r1
        rw [bne_iff_ne] at this
        exact absurd (r3.trans ht) this
      | some T =>
        have hrl := ((zk_wt1.some hT).mp (hG.2.2.2.2.1 _ _ g3)).2.2.2
        cases hFn : F n.toNat with
        | inl y =>
          rw [hFn] at c1
          unfold zk_rd at c1
          dsimp only at c1
          rw [if_neg (by omega), if_neg (by omega)] at c1
          cases c1
        | inr o =>
          rw [hFn] at hrl c1 g4
          obtain ⟨w1, w2, n1, n2, d1, d2, d3, d4, d5⟩ := hrl r r1 (r3.trans ht)
          rw [r4] at d2
          have c1 : o.2[r.2.1]? = some v1 := c1
          have g4 : o.2[z.2.1]? = some v := g4
          rw [d1] at c1
          cases c1
          rw [d2] at g4
          cases g4
          obtain ⟨g0, m, y3, y4, y5, y6⟩ := g5
          rw [z4] at y6
          rw [z3] at y3 y4
          rw [ha] at y4
          cases y4
          have hk2 : g0.1 = 2 := by
            unfold zk_kd at h0
            rw [y3] at h0
            exact h0
          rw [hk2, Int.add_zero, zk_mk_ref (Nat.le_refl _), if_neg (by omega), Int.toNat_natCast] at y6
          subst y6
          obtain ⟨-, cA', x', x1, x2, -⟩ := d4
          rw [hF] at x1
          cases x1
          unfold zk_cinl at hL
          split at hL
          · cases hL
            obtain ⟨j, f1, f2, f3, f4, k', f5, f6⟩ := c2.int hG.1 r7
            subst f1
            have d3 : (Int32.ofInt j).toInt = n1 := d3
            rw [zk_i32 f2] at d3
            rw [r8, hk] at f5
            cases f5
            omega
          · split at hL
            · rename_i hc2
              obtain ⟨g9, m9, u1, u2, u3, u4⟩ := c2
              have k9 : g9.1 = 2 := by
                have := hc2.1
                unfold zk_kd at this
                rw [u1] at this
                exact this
              rw [k9, hc2.2, Int.add_zero, zk_mk_ref (Nat.le_refl _)] at u4
              split at u4
              · subst u4
                exact d3.elim
              · rename_i hm
                subst u4
                obtain ⟨-, cB, xB, b1, b2, b3⟩ := d3
                obtain ⟨v9, e1, e2⟩ := zk_fnd_ok hG.2.2.1 hL (a := m9.toNat) (by rw [Int.toNat_of_nonneg (by omega)]; exact u2)
                rw [b1] at e1
                have e1 : some (Value.int (Int32.ofNat xB.1)) = some v9 := e1
                cases e1
                obtain ⟨j, q1, q2, q3, q4, k', q5, q6⟩ := e2.int hG.1 r7
                have q1 := Value.int.inj q1
                rw [zk_n32 b3, zk_eq32 (by constructor <;> omega) q2] at q1
                rw [r8, hk] at q5
                cases q5
                omega
            · cases hL
    · cases r6
  · cases z5
theorem zk_relp_ok {κ : zk_C} {N : List Int} {P : Nat → Option Nat} {F : Nat → va_E} {H : Heap} {locs : List Loc} {ls : Array Slot} (hG : zk_G w s u κ N P F H locs ls) {t k x : Nat} {qv : zk_S} (h : zk_relp κ t k x qv = true) {a : Nat} (hna : N[x]? = some (a : Int)) (hp : P a = some t) {ci : Nat} {fs : List Value} (ho : F a = .inr (ci, fs)) (hrl : zk_rl P F t (F a)) {vv : Value} (hv : zk_sv κ.1 N qv vv) (hk : k < fs.length) : zk_rl P (zk_up F a (.inr (ci, fs.set k vv))) t (.inr (ci, fs.set k vv)) := by
  have hst : ∀ v n, zk_sz P F v n → zk_sz P (zk_up F a (.inr (ci, fs.set k vv))) v n := fun v n => zk_sz.step (fun b t hb => ⟨t, hb⟩) (fun b t' cA y hb hF => by
    have hne : b ≠ a := by
      intro e
      subst e
      rw [ho] at hF
      cases hF
    exact ⟨cA, y, by rw [zk_up_ne hne]; exact hF, rfl⟩)
  intro r hr ht
  have hc := List.all_eq_true.mp h r hr
  rw [Bool.or_eq_true, bne_iff_ne, Bool.and_eq_true, bne_iff_ne, Bool.or_eq_true, bne_iff_ne, Bool.and_eq_true, beq_iff_eq] at hc
  rw [ho] at hrl
  obtain ⟨v1, v2, n1, n2, h1, h2, h3, h4, h5⟩ := hrl r hr ht
  rcases hc with hc | ⟨hc2, hc⟩
  · exact absurd ht hc
  have h2' : (fs.set k vv)[r.2.2]? = some v2 := by rw [List.getElem?_set_ne (Ne.symm hc2)]; exact h2
  by_cases hk1 : r.2.1 = k
  · rcases hc with hc | ⟨hc1, hc3⟩
    · exact absurd hk1 hc
    obtain ⟨i, e1, e2, e3, e4, kk, e5, e6⟩ := hv.int hG.1 hc1
    unfold zk_relq at hc3
    obtain ⟨z, z1, z2⟩ := List.any_eq_true.mp hc3
    rw [Bool.and_eq_true, Bool.and_eq_true, Bool.and_eq_true, Bool.and_eq_true, beq_iff_eq, bne_iff_ne, Bool.or_eq_true, beq_iff_eq, beq_iff_eq] at z2
    obtain ⟨⟨⟨⟨z3, z9⟩, z4⟩, z5⟩, z6⟩ := z2
    split at z6
    · rename_i L hL
      rw [Bool.and_eq_true, Bool.and_eq_true, beq_iff_eq, beq_iff_eq] at z6
      obtain ⟨⟨z7, z8⟩, z10⟩ := z6
      obtain ⟨n, t', v', g1, g2, g3, g4, g5⟩ := hG.2.2.1 z z1
      rw [z3, hna] at g1
      cases g1
      rw [Int.toNat_natCast, ho] at g4
      have g4 : fs[z.2.1]? = some v' := g4
      unfold zk_fnd at hL
      obtain ⟨y, yf, rfl⟩ := Option.map_eq_some_iff.mp hL
      have ym := List.mem_of_find?_eq_some yf
      have yp := List.find?_some yf
      rw [Bool.and_eq_true, beq_iff_eq, beq_iff_eq] at yp
      obtain ⟨m, tb, w', f1, f2, f3, f4, f5⟩ := hG.2.2.1 y ym
      rw [yp.1] at f1
      rw [yp.2] at f4
      have hv' : v' = .ref m.toNat := by
        obtain ⟨g0, m', y3, y4, y5, y6⟩ := g5
        rw [f1] at y4
        cases y4
        have hk2 : g0.1 = 2 := by
          unfold zk_kd at z5
          rw [y3] at z5
          exact z5
        rw [y6, hk2, z7, Int.add_zero, zk_mk_ref (Nat.le_refl _), if_neg (by omega)]
      have key : ∃ m2, zk_sz P F v' m2 ∧ m2 ≤ n2 := by
        rcases z4 with z4 | z4
        · rw [z4, h2] at g4
          cases g4
          exact ⟨n2, h4, Int.le_refl _⟩
        · obtain ⟨u1, u2, m1, m2, b1, b2, b3, b4, b5⟩ := hrl _ (List.contains_iff_mem.mp z4) rfl
          dsimp only at b1 b2
          rw [g4] at b1
          cases b1
          rw [h2] at b2
          cases b2
          exact ⟨m1, b3, by rw [h4.uniq b4]; exact b5⟩
      obtain ⟨m2, k1, k2⟩ := key
      rw [hv'] at k1
      obtain ⟨-, cA, xx, x1, x2, x3⟩ := k1
      rw [x1] at f4
      have f4 : some (Value.int (Int32.ofNat xx.1)) = some w' := f4
      cases f4
      obtain ⟨j, q1, q2, q3, q4, k', q5, q6⟩ := f5.int hG.1 z8
      have q1 := Value.int.inj q1
      rw [zk_n32 x3, zk_eq32 (by constructor <;> omega) q2] at q1
      have hlt := zk_ltb_ok hG.2.1 z10 e5 q5 (by omega) (by
        have : zk_lw κ.1 (y.2.2.1, y.2.2.2 + 1) = zk_lw κ.1 y.2.2 + 1 := by
          unfold zk_lw
          obtain ⟨f, hf, -⟩ := zk_all2_getR hG.1 q5
          dsimp only
          rw [hf]
          dsimp only
          omega
        dsimp only
        omega)
      dsimp only at hlt
      refine ⟨vv, v2, i, n2, ?_, h2', ?_, hst _ _ h4, by omega⟩
      · show (fs.set k vv)[r.2.1]? = _
        rw [hk1, List.getElem?_set_self hk]
      · rw [e1]
        exact zk_i32 e2
    · cases z6
  · exact ⟨v1, v2, n1, n2, by show (fs.set k vv)[r.2.1]? = _; rw [List.getElem?_set_ne (Ne.symm hk1)]; exact h1, h2', hst _ _ h3, hst _ _ h4, h5⟩
theorem zk_ix_ok {κ : zk_C} {N : List Int} {P : Nat → Option Nat} {F : Nat → va_E} {H : Heap} {locs : List Loc} {ls : Array Slot} (hG : zk_G w s u κ N P F H locs ls) {qi qa : zk_S} {T : zk_T} (h : zk_ix κ qi qa T = true) {v : Value} (hv : zk_sv κ.1 N qi v) {a : Nat} (ha : N[qa.1]? = some (a : Int)) {cA : ClassId} {x : vp_A} (hF : F a = .inl (cA, x)) (hp : T.2.1 ≤ x.1) (hq : x.1 ≤ T.2.2.1) :
    ∃ i : Int, v = .int (Int32.ofInt i) ∧ zk_rg 0 i ∧ 0 ≤ i ∧ i < x.1 ∧ zk_lw κ.1 qi ≤ i ∧ i ≤ zk_hg κ.1 qi ∧ vp_in (Int32.ofInt i) x.1 ∧ (Int32.ofInt i).toNatClampNeg = i.toNat := by
  unfold zk_ix at h
  simp only [Bool.and_eq_true, Bool.or_eq_true, beq_iff_eq, decide_eq_true_eq] at h
  obtain ⟨⟨⟨h1, h2⟩, h3⟩, h4⟩ := h
  obtain ⟨i, e1, e2, e3, e4, k, e5, e6⟩ := hv.int hG.1 h1
  have hi : i < x.1 := by
    rcases h4 with h4 | h4 | h4
    · omega
    · split at h4
      · rename_i r hr
        simp only [Bool.and_eq_true, beq_iff_eq] at h4
        obtain ⟨v', g1, g2⟩ := zk_fnd_ok hG.2.2.1 hr ha
        obtain ⟨j, f1, f2, f3, f4, k', f5, f6⟩ := g2.int hG.1 h4.1
        rw [hF] at g1
        have g1 : some (Value.int (Int32.ofNat x.1)) = some v' := g1
        cases g1
        have f1 := Value.int.inj f1
        rw [zk_n32 (by omega), zk_eq32 (by constructor <;> omega) f2] at f1
        have := zk_ltb_ok hG.2.1 h4.2 e5 f5 (by omega) (by omega)
        omega
      · cases h4
    · have := zk_ixr_ok hG h4 e5 (by omega) ha hF
      omega
  refine ⟨i, e1, e2, by omega, hi, e3, e4, ?_, ?_⟩
  · rw [vp_in_iff, zk_i32 e2]
    omega
  · show (Int32.ofInt i).toInt.toNat = _
    rw [zk_i32 e2]
theorem zk_fits_ok {V : List zk_F} {N : List Int} {P : Nat → Option Nat} (hV : zk_all2 (zk_ok P) V N) {q : zk_S} {f : zk_F} (h : zk_fits V q f = true) {v : Value} (hv : zk_sv V N q v) : zk_fv P f v := by
  obtain ⟨g, n, h1, h2, h3, h4⟩ := hv
  unfold zk_fits at h
  rw [h1] at h
  obtain ⟨n', e1, e2⟩ := zk_all2_get hV h1
  cases h2.symm.trans e1
  obtain ⟨fk, ft, fl, fh⟩ := f
  obtain ⟨gk, gt, gl, gh⟩ := g
  dsimp only at h
  split at h
  · rename_i hk
    simp only [Bool.and_eq_true, beq_iff_eq, decide_eq_true_eq] at h
    obtain ⟨⟨rfl, h5⟩, h6⟩ := h
    have iv := e2.iv hk
    dsimp only at iv
    refine ⟨n + q.2, ?_, h4⟩
    match gk, hk, h3 with
    | 0, _, h3 => exact ⟨by dsimp only; omega, by dsimp only; omega, h3⟩
    | 1, _, h3 => exact ⟨by dsimp only; omega, by dsimp only; omega, h3⟩
  · simp only [Bool.and_eq_true, beq_iff_eq] at h
    obtain ⟨⟨⟨rfl, rfl⟩, h5⟩, h6⟩ := h
    have e2 : gl ≤ n ∧ -1 ≤ n ∧ (gh < 0 → n < 0) ∧ (0 ≤ n → P n.toNat = some gt) := e2
    rw [h5, Int.add_zero] at h4
    refine ⟨n, ?_, h4⟩
    split at h6
    · rename_i h7
      have h6 := of_decide_eq_true h6
      have := e2.2.2.1 h7
      exact ⟨by dsimp only; omega, e2.2.1, fun _ => this, fun z => absurd z (by omega)⟩
    · simp only [Bool.and_eq_true, beq_iff_eq, decide_eq_true_eq] at h6
      obtain ⟨⟨h8, h9⟩, h10⟩ := h6
      refine ⟨by dsimp only; omega, e2.2.1, fun z => ?_, fun z => ?_⟩
      · dsimp only at z
        omega
      · dsimp only
        rw [← h8]
        exact e2.2.2.2 z
theorem zk_tyb_ok {V : List zk_F} {N : List Int} {P : Nat → Option Nat} (hV : zk_all2 (zk_ok P) V N) {q : zk_S} {ty : FieldType} {c : Int} (hc : zk_tyc ty = c) (h : zk_tyb c V q = true) {v : Value} (hv : zk_sv V N q v) : narrow ty v = v ∧ fits ty v = true := by
  unfold zk_tyb at h
  subst hc
  cases ty
  case int =>
    have h1 : zk_kd V q = 0 := by simpa [zk_tyc] using h
    obtain ⟨n, rfl, -⟩ := hv.int hV h1
    exact ⟨rfl, rfl⟩
  case long =>
    have h1 : zk_kd V q = 1 := by simpa [zk_tyc] using h
    obtain ⟨n, rfl, -⟩ := hv.long hV h1
    exact ⟨rfl, rfl⟩
  case object C =>
    have h1 : 2 ≤ zk_kd V q ∧ zk_kd V q < 99 := by simpa [zk_tyc] using h
    rcases (hv.ref h1.1 h1.2).1 with rfl | ⟨a, rfl⟩ <;> exact ⟨rfl, rfl⟩
  case array C =>
    have h1 : 2 ≤ zk_kd V q ∧ zk_kd V q < 99 := by simpa [zk_tyc] using h
    rcases (hv.ref h1.1 h1.2).1 with rfl | ⟨a, rfl⟩ <;> exact ⟨rfl, rfl⟩
  case boolean =>
    have h1 : zk_kd V q = 0 ∧ 0 ≤ zk_lw V q ∧ zk_hg V q ≤ 1 := by simpa [zk_tyc] using h
    obtain ⟨n, rfl, e2, e3, e4, -⟩ := hv.int hV h1.1
    have : n = 0 ∨ n = 1 := by omega
    rcases this with rfl | rfl <;> exact ⟨by decide, by decide⟩
  case byte =>
    have h1 : zk_kd V q = 0 ∧ -128 ≤ zk_lw V q ∧ zk_hg V q ≤ 127 := by simpa [zk_tyc] using h
    obtain ⟨n, rfl, e2, e3, e4, -⟩ := hv.int hV h1.1
    have e5 : (Int32.ofInt n).toInt8.toInt32 = Int32.ofInt n := by
      rw [← Int32.toInt_inj, Int8.toInt_toInt32]
      have e6 : (Int32.ofInt n).toInt8 = Int8.ofInt n := by
        rw [← Int8.toInt_inj, Int32.toInt_toInt8, zk_i32 e2, Int8.toInt_ofInt]
      rw [e6, zk_i32 e2, Int8.toInt_ofInt_of_le (by omega) (by omega)]
    refine ⟨congrArg Value.int e5, ?_⟩
    show (decide ((-128 : Int32) ≤ Int32.ofInt n) && decide (Int32.ofInt n ≤ 127)) = true
    have e128 : (-128 : Int32) = Int32.ofInt (-128) := by decide
    have e127 : (127 : Int32) = Int32.ofInt 127 := by decide
    rw [Bool.and_eq_true, decide_eq_true_eq, decide_eq_true_eq, e128, e127]
    exact ⟨(zk_le32 (a := -128) (by constructor <;> decide) e2).mpr (by omega), (zk_le32 (b := 127) e2 (by constructor <;> decide)).mpr (by omega)⟩
  case char => simp [zk_tyc] at h
  case short => simp [zk_tyc] at h
  case float => simp [zk_tyc] at h
  case double => simp [zk_tyc] at h
/-- an object not yet made: found, and written -/
theorem zk_rw_find {V : List zk_F} {N : List Int} {P : Nat → Option Nat} {H : Heap} {X : Nat → Prop} {x : Nat} {z : Nat × Nat × List zk_S} : ∀ {r : List (Nat × Nat × List zk_S)} {b : Nat}, zk_rw w X V N P H r b → r.find? (fun z => z.1 == x) = some z → ∃ n : Nat, ∃ fs, N[x]? = some (n : Int) ∧ n < b ∧ (w.2.2.2.1 ≤ n ∧ ¬ X n) ∧ P n = none ∧ va_at w.2.2.1 w.2.1 (n, .inr (z.2.1, fs)) H ∧ zk_all2 (zk_sv V N) z.2.2 fs
  | [], _, _, h => by simp at h
  | q :: r, b, ⟨n, fs, h1, h2, h3, h4, h5, h6, h7⟩, h => by
    rw [List.find?_cons] at h
    split at h
    · rename_i e
      cases h
      have e : z.1 = x := by simpa using e
      exact ⟨n, fs, e ▸ h1, h2, h3, h4, h5, h6⟩
    · obtain ⟨n', fs', g1, g2, g3⟩ := zk_rw_find h7 h
      exact ⟨n', fs', g1, Nat.lt_trans g2 h2, g3⟩
theorem zk_rw_set {V : List zk_F} {N : List Int} {P : Nat → Option Nat} {H H1 : Heap} {X : Nat → Prop} {x k n : Nat} {z : Nat × Nat × List zk_S} {qv : zk_S} {v : Value} {fs0 : List Value} (hx : N[x]? = some (n : Int)) (hv : zk_sv V N qv v) (hat0 : va_at w.2.2.1 w.2.1 (n, .inr (z.2.1, fs0)) H) (hf0 : zk_all2 (zk_sv V N) z.2.2 fs0) (hat : va_at w.2.2.1 w.2.1 (n, .inr (z.2.1, fs0.set k v)) H1) (hk : ∀ q, q ≠ n → H1[q]? = H[q]?) : ∀ {r : List (Nat × Nat × List zk_S)} {b : Nat}, zk_rw w X V N P H r b → r.find? (fun z => z.1 == x) = some z → zk_rw w X V N P H1 (zk_rwset r x k qv) b
  | [], _, _, h => by simp at h
  | q :: r, b, ⟨n', fs, h1, h2, h3, h4, h5, h6, h7⟩, h => by
    rw [List.find?_cons] at h
    split at h
    · rename_i e
      cases h
      have e : z.1 = x := by simpa using e
      unfold zk_rwset
      rw [if_pos e]
      rw [e, hx] at h1
      have e2 : n = n' := by cases h1; omega
      subst e2
      refine ⟨n, fs0.set k v, by rw [e]; exact hx, h2, h3, h4, hat, zk_all2_set2 hv hf0, h7.kept (fun q hq hpn => ⟨hpn, hk q (Nat.ne_of_lt hq)⟩)⟩
    · rename_i e
      have e : ¬ q.1 = x := by simpa using e
      unfold zk_rwset
      rw [if_neg e]
      obtain ⟨n2, fs', g1, g2, g3⟩ := zk_rw_find h7 h
      have e3 : n = n2 := by rw [hx] at g1; cases g1; omega
      refine ⟨n', fs, h1, h2, h3, h4, va_at.kept h5 (hk n' (by omega)), h6, zk_rw_set hx hv hat0 hf0 hat hk h7 h⟩
theorem zk_getR_ok (hx : p.tables.exec = Jvm.exec) (hb : c.code = cc) (hts : ∀ x ∈ Ts, x.before args s = true) (hcl : zk_cls w Ts) (hown : s.vm.findClass own = some m.cls) (hK : va_K w.2.2.1 w.2.1 [] s) {ty : List zk_T} (hw : w.1 = ty) {lk : List zk_L} (hlk : ∀ q ∈ lk, zk_lkok w s args own q) {κ : zk_C} {idx : Nat} {q : zk_S} {r : zk_C × zk_S} (hr : zk_getR ty lk κ idx q = some r) {pc cu su : Nat} (hdg : decode cc pc = .ok (.getfield idx, 3)) {st : List zk_S} (kk : zk_J p l e R s m args below meth c Q w u r.1 (r.2 :: st) cu su (pc + 3)) : zk_J p l e R s m args below meth c Q w u κ (q :: st) cu su pc := by
  intro N P F H locs ls sv hG hS
  have hV := hG.1
  match sv, hS with
  | vq :: sv', hS =>
    unfold zk_getR at hr
    split at hr
    · rename_i e f he hf
      obtain ⟨ek, ei, ci, k, c0⟩ := e
      obtain ⟨e1, e2, e3⟩ := zk_lk_ok hlk he
      dsimp only at e1 e2
      subst e1; subst e2
      obtain ⟨e3, e4⟩ := e3
      dsimp only at e3 e4
      split at hr
      · rename_i hk2
        split at hr
        · rename_i t T hT
          split at hr
          · rename_i hc
            obtain ⟨c1, c2⟩ := hc
            obtain ⟨a, rfl, hna, hp, hwT⟩ := zk_typ_ok hw hV hT hS.1
            obtain ⟨fs, o1, o2, o3, o4⟩ := zk_obj hG.2.2.2.2.1 hp hwT c1
            rw [c2] at o1 o3
            split at hr
            · rename_i r' hr'
              cases hr
              obtain ⟨v, g1, g2⟩ := zk_fnd_ok hG.2.2.1 hr' hna
              rw [o1] at g1
              exact zw_getf hx hb hts hcl hown hK e3 o3 g1 hdg (kk N P F H locs ls _ hG ⟨g2, hS.2⟩)
            · split at hr
              · rename_i ft hft
                split at hr
                · rename_i h3
                  cases hr
                  obtain ⟨v, g1, n, g2, g3⟩ := zk_all2_get o2 hft
                  have hG2 := hG.push g2
                  have hl := zk_le.snoc (V := κ.1) (N := N) ft n
                  have hsv : zk_sv (κ.1 ++ [ft]) (N ++ [n]) (κ.1.length, 0) v := by rw [g3]; exact zk_sv_last hV g2
                  refine zw_getf hx hb hts hcl hown hK e3 o3 g1 hdg (kk (N ++ [n]) P F H locs ls _ ⟨hG2.1, hG2.2.1, fun z hz => ?_, hG2.2.2.2⟩ ⟨hsv, zk_sv_mono hl hS.2⟩)
                  rcases List.mem_cons.mp hz with rfl | hz
                  · exact ⟨(a : Int), t, v, hl.1 _ _ hna, Int.natCast_nonneg _, by rw [Int.toNat_natCast]; exact hp, by rw [Int.toNat_natCast, o1]; exact g1, hsv⟩
                  · exact hG2.2.2.1 z hz
                · cases hr
              · cases hr
          · cases hr
        · cases hr
      · split at hr
        · rename_i hc
          obtain ⟨h3, h0⟩ := hc
          split at hr
          · rename_i z hz
            split at hr
            · rename_i hci
              obtain ⟨r', g1, g2⟩ := Option.map_eq_some_iff.mp hr
              cases g2
              obtain ⟨n, fs, o1, o2, o3, o4, o5, o6⟩ := zk_rw_find hG.2.2.2.1 hz
              obtain ⟨v, g3, g4⟩ := zk_all2_get o6 g1
              have hvq : vq = .ref n := by
                obtain ⟨g, n', y1, y2, y3, y4⟩ := hS.1
                cases hf.symm.trans y1
                rw [o1] at y2
                cases y2
                rw [y4, h3, h0]
                show (if (n : Int) + 0 < 0 then Value.null else Value.ref ((n : Int) + 0).toNat) = _
                rw [if_neg (by omega), Int.add_zero, Int.toNat_natCast]
              subst hvq
              rw [hci] at o5
              exact zw_getf hx hb hts hcl hown hK e3 o5 g3 hdg (kk N P F H locs ls _ hG ⟨g4, hS.2⟩)
            · cases hr
          · cases hr
        · cases hr
    · cases hr
theorem zk_putR_ok (hx : p.tables.exec = Jvm.exec) (hb : c.code = cc) (hts : ∀ x ∈ Ts, x.before args s = true) (hcl : zk_cls w Ts) (hown : s.vm.findClass own = some m.cls) (hK : va_K w.2.2.1 w.2.1 [] s) {ty : List zk_T} (hw : w.1 = ty) {lk : List zk_L} (hlk : ∀ q ∈ lk, zk_lkok w s args own q) {ini : Bool} (hini : ini = true → meth.name = "<init>") {κ κ' : zk_C} {idx : Nat} {qv q : zk_S} (hr : zk_putR ty lk u.2.2.2.1 ini κ idx qv q = some κ') {pc cu su : Nat} (hdg : decode cc pc = .ok (.putfield idx, 3)) {st : List zk_S} (kk : zk_J p l e R s m args below meth c Q w u κ' st cu su (pc + 3)) : zk_J p l e R s m args below meth c Q w u κ (qv :: q :: st) cu su pc := by
  intro N P F H locs ls sv hG hS
  have hV := hG.1
  match sv, hS with
  | vv :: vq :: sv', hS =>
    unfold zk_putR at hr
    split at hr
    · rename_i e f he hf
      obtain ⟨ek, ei, ci, k, c0⟩ := e
      obtain ⟨e1, e2, e3⟩ := zk_lk_ok hlk he
      dsimp only at e1 e2
      subst e1; subst e2
      obtain ⟨e3, C, T0, N0, fty, e4, e5, e6, e7, e8⟩ := e3
      dsimp only at e3 e4 e5 e6 e7 e8
      split at hr
      · rename_i htyb
        have hty : ∀ (C : String) (T : u_T) (N : Nat), w.2.1[ci]? = some (C, T, N) → ∃ ty, parseFieldDescriptor (T k).2.2.1 = some ty ∧ narrow ty vv = vv ∧ fits ty vv = true := by
          intro C' T' N' h
          cases e4.symm.trans h
          exact ⟨fty, e5, zk_tyb_ok hV e6 htyb hS.1⟩
        split at hr
        · rename_i hk2
          split at hr
          · rename_i t T hT
            split at hr
            · rename_i ft hft
              split at hr
              · rename_i hc
                obtain ⟨c1, c2, c3, c4, c5, c6, c7⟩ := hc
                cases hr
                obtain ⟨a, rfl, hna, hp, hwT⟩ := zk_typ_ok hw hV hT hS.2.1
                obtain ⟨fs, o1, o2, o3, o4⟩ := zk_obj hG.2.2.2.2.1 hp hwT c1
                rw [c2] at o1 o3
                have hfv := zk_fits_ok hV c3 hS.1
                have hlen : k < fs.length := by
                  rw [← zk_all2_len o2]
                  exact (List.getElem?_eq_some_iff.mp hft).1
                have hsame : zk_same (fun j => k ≤ j ∧ j ≤ k) (F a) (.inr (ci, fs.set k vv)) := by
                  rw [o1]
                  refine ⟨rfl, by simp, fun j hj => ?_⟩
                  show fs[j]? = (fs.set k vv)[j]?
                  rw [List.getElem?_set_ne (fun h => hj (by omega))]
                refine zw_putf hx hb hts hcl hown hK e3 o3 (fun C' T' N' h => Or.inl ?_) hty hlen hdg (fun H1 j hat hz hk => ?_)
                · cases e4.symm.trans h
                  rw [e7]
                  exact decide_eq_false (by dsimp only at c4; omega)
                · have hmay := zk_mayb_ok c5 hG.2.2.2.2.2.2.2.2.2.1 hG.2.2.2.2.2.2.2.2.2.2.1 hna (Int.natCast_nonneg _)
                  rw [Int.toNat_natCast] at hmay
                  refine kk N P _ H1 _ ls sv' (zk_G.write hG hp hwT ?_ hat hz hk (L := [⟨a, j⟩]) (fun q hq => by rw [List.mem_singleton.mp hq]) hsame (hmay.imp (fun z => z) (fun z j hj => z j (by unfold zk_pm; rw [zk_er_lt (by dsimp only at c7; omega)]; exact hj))) (zk_relp_ok hG c6 hna hp o1 (((zk_wt1.some hwT).mp (hG.2.2.2.2.1 a t hp)).2.2.2) hS.1 hlen) (fun z hz => ?_)) hS.2.2
                  · unfold zk_el
                    rw [c1]
                    refine ⟨fs.set k vv, by rw [c2], zk_all2_setR o2 (fun g hg => ?_)⟩
                    cases hft.symm.trans hg
                    exact hfv
                  · rcases List.mem_cons.mp hz with rfl | hz
                    · refine ⟨(a : Int), t, vv, hna, Int.natCast_nonneg _, by rw [Int.toNat_natCast]; exact hp, ?_, hS.1⟩
                      rw [Int.toNat_natCast, zk_up_self]
                      show (fs.set k vv)[k]? = some vv
                      rw [List.getElem?_set_self hlen]
                    · obtain ⟨z1, z2⟩ := List.mem_filter.mp hz
                      exact zk_fa1_keep hV (hG.2.2.1 z z1) hp hsame z2
              · cases hr
            · cases hr
          · cases hr
        · split at hr
          · rename_i hc
            obtain ⟨h3, h0⟩ := hc
            split at hr
            · rename_i z hz
              split at hr
              · rename_i hc
                obtain ⟨c1, c2, c3⟩ := hc
                cases hr
                obtain ⟨n, fs, o1, o2, o3, o4, o5, o6⟩ := zk_rw_find hG.2.2.2.1 hz
                have hvq : vq = .ref n := by
                  obtain ⟨g, n', y1, y2, y3, y4⟩ := hS.2.1
                  cases hf.symm.trans y1
                  rw [o1] at y2
                  cases y2
                  rw [y4, h3, h0]
                  show (if (n : Int) + 0 < 0 then Value.null else Value.ref ((n : Int) + 0).toNat) = _
                  rw [if_neg (by omega), Int.add_zero, Int.toNat_natCast]
                subst hvq
                rw [c1] at o5
                refine zw_putf hx hb hts hcl hown hK e3 o5 (fun C' T' N' h => ?_) hty (by rw [← zk_all2_len o6]; exact c2) hdg (fun H1 j hat hz1 hk => ?_)
                · cases e4.symm.trans h
                  rw [e7]
                  rcases c3 with c3 | c3
                  · exact Or.inl (decide_eq_false (by dsimp only at c3; omega))
                  · by_cases h16 : 16 ≤ c0
                    · exact Or.inr ⟨decide_eq_true h16, hini c3.1, e8 ⟨h16, c3.2⟩⟩
                    · exact Or.inl (decide_eq_false h16)
                · obtain ⟨g1, g2, g3, g4, g5, g6, g7, g8, g9, g10, g11, g12, g13⟩ := hG
                  refine kk N P F H1 _ ls sv' ⟨g1, g2, g3, ?_, g5.kept (fun q t' hq _ => hk q ?_), g6, g7, g8, ⟨by rw [hz1]; exact g9.1, fun q y1 y2 => ?_, fun q hq => ?_⟩, g10, g11, g12, fun q y1 y2 => ⟨(g13 q y1 y2).1, (hk q (fun e9 => o3.2 (by rw [← e9]; exact ⟨y1, y2⟩))).trans (g13 q y1 y2).2⟩⟩ hS.2.2
                  · rw [hz1]
                    exact zk_rw_set o1 hS.1 (by rw [c1]; exact o5) o6 (by rw [c1]; exact hat) hk g4 hz
                  · intro e9
                    subst e9
                    rw [o4] at hq
                    cases hq
                  · rw [hk q (fun e9 => y2 (by rw [e9]; exact o3.1))]
                    exact g9.2.1 q y1 y2
                  · rcases List.mem_append.mp hq with y | y
                    · exact g9.2.2 q y
                    · rw [List.mem_singleton.mp y]
                      exact o3.1
              · cases hr
            · cases hr
          · cases hr
      · cases hr
    · cases hr
end ZK12
end
section
/-! part 13: steps on arrays; what is made -/
def zk_hl : List zk_F → Nat → Nat → Nat → Int × Int
  | [], _, _, _ => (0, 0)
  | f :: r, s, a, b => if a < f.2.1 ∧ s ≤ b then (min f.2.2.1 (zk_hl r f.2.1 a b).1, max f.2.2.2 (zk_hl r f.2.1 a b).2) else zk_hl r f.2.1 a b
theorem zk_hl_ok {a b j : Nat} (h1 : a ≤ j) (h2 : j ≤ b) : ∀ {rs : List zk_F} {s : Nat}, s ≤ j → (zk_hl rs s a b).1 ≤ (zk_rgn rs j).2.2.1 ∧ (zk_rgn rs j).2.2.2 ≤ (zk_hl rs s a b).2
  | [], _, _ => ⟨Int.le_refl _, Int.le_refl _⟩
  | f :: r, s, hs => by
    unfold zk_hl zk_rgn
    by_cases hj : j < f.2.1
    · rw [if_pos hj, if_pos ⟨by omega, by omega⟩]
      dsimp only
      omega
    · rw [if_neg hj]
      have ih := zk_hl_ok h1 h2 (rs := r) (s := f.2.1) (by omega)
      split
      · dsimp only
        omega
      · exact ih
theorem zk_rgn_kd {rs : List zk_F} (h : rs.all (fun f => f.1 == 0) = true) (j : Nat) : (zk_rgn rs j).1 = 0 := by
  induction rs with
  | nil => rfl
  | cons f r ih =>
    simp only [List.all_cons, Bool.and_eq_true, beq_iff_eq] at h
    unfold zk_rgn
    split
    · exact h.1
    · exact ih h.2
theorem zk_mods {p a j b : Nat} (h1 : a ≤ j) (h2 : j ≤ b) (h : a / p = b / p) : a % p ≤ j % p ∧ j % p ≤ b % p := by
  have e1 : a / p ≤ j / p := Nat.div_le_div_right h1
  have e2 : j / p ≤ b / p := Nat.div_le_div_right h2
  have e3 : j / p = a / p := by omega
  have f1 := Nat.div_add_mod a p
  have f2 := Nat.div_add_mod j p
  have f3 := Nat.div_add_mod b p
  rw [e3] at f2
  rw [← h] at f3
  generalize p * (a / p) = z at f1 f2 f3
  omega
def zk_rdT (T : zk_T) (lo hi : Int) : Option zk_F :=
  if (zk_f0 T).1 = 9 then
    (if 0 < (zk_f0 T).2.1 ∧ T.2.2.2.tail.all (fun f => f.1 == 0) = true then
      (if lo.toNat / (zk_f0 T).2.1 = hi.toNat / (zk_f0 T).2.1 then some (0, 0, zk_hl T.2.2.2.tail 0 (lo.toNat % (zk_f0 T).2.1) (hi.toNat % (zk_f0 T).2.1)) else some (0, 0, zk_hl T.2.2.2.tail 0 0 (zk_f0 T).2.1))
     else none)
  else some (zk_f0 T)
theorem zk_rdT_ok {P : Nat → Option Nat} {T : zk_T} {lo hi : Int} {g : zk_F} (h : zk_rdT T lo hi = some g) {j : Nat} (h1 : lo ≤ j) (h2 : (j : Int) ≤ hi) {z : Int} (hz : zk_ok P (zk_fj T j) z) : (zk_fj T j).1 = g.1 ∧ zk_ok P g z := by
  unfold zk_rdT at h
  unfold zk_fj at hz ⊢
  split at h
  · rename_i h9
    rw [if_pos h9] at hz ⊢
    split at h
    · rename_i hc
      obtain ⟨c1, c2⟩ := hc
      have hk := zk_rgn_kd c2 (j % (zk_f0 T).2.1)
      have hok : (zk_rgn T.2.2.2.tail (j % (zk_f0 T).2.1)).2.2.1 ≤ z ∧ z ≤ (zk_rgn T.2.2.2.tail (j % (zk_f0 T).2.1)).2.2.2 ∧ zk_rg 0 z := by
        have iv := hz.iv (by rw [hk]; decide)
        have rg := hz.rg
        rw [hk] at rg
        exact ⟨iv.1, iv.2, rg⟩
      split at h
      · rename_i hq
        cases h
        have hm := zk_mods (p := (zk_f0 T).2.1) (a := lo.toNat) (j := j) (b := hi.toNat) (by omega) (by omega) hq
        have hh := zk_hl_ok hm.1 hm.2 (rs := T.2.2.2.tail) (s := 0) (Nat.zero_le _)
        exact ⟨hk, by show _ ≤ z; dsimp only; omega, by show z ≤ _; dsimp only; omega, hok.2.2⟩
      · cases h
        have hh := zk_hl_ok (a := 0) (b := (zk_f0 T).2.1) (j := j % (zk_f0 T).2.1) (Nat.zero_le _) (Nat.le_of_lt (Nat.mod_lt _ c1)) (rs := T.2.2.2.tail) (s := 0) (Nat.zero_le _)
        exact ⟨hk, by show _ ≤ z; dsimp only; omega, by show z ≤ _; dsimp only; omega, hok.2.2⟩
    · cases h
  · rename_i h9
    rw [if_neg h9] at hz ⊢
    cases h
    exact ⟨rfl, hz⟩
def zk_fta (V : List zk_F) (q : zk_S) : List zk_F → Nat → Nat → Nat → Bool
  | [], s, _, b => decide (b < s)
  | f :: r, s, a, b => (if a < f.2.1 ∧ s ≤ b then zk_fits V q f else true) && zk_fta V q r f.2.1 a b
theorem zk_fta_ok {V : List zk_F} {q : zk_S} {a b j : Nat} (h1 : a ≤ j) (h2 : j ≤ b) : ∀ {rs : List zk_F} {s : Nat}, zk_fta V q rs s a b = true → s ≤ j → zk_fits V q (zk_rgn rs j) = true
  | [], s, h, hs => by
    have := of_decide_eq_true h
    omega
  | f :: r, s, h, hs => by
    unfold zk_fta at h
    rw [Bool.and_eq_true] at h
    unfold zk_rgn
    split
    · rename_i hj
      have := h.1
      rw [if_pos ⟨by omega, by omega⟩] at this
      exact this
    · rename_i hj
      exact zk_fta_ok h1 h2 h.2 (by omega)
def zk_wrT (V : List zk_F) (q : zk_S) (T : zk_T) (lo hi : Int) : Bool :=
  if (zk_f0 T).1 = 9 then decide (0 < (zk_f0 T).2.1) && (if lo.toNat / (zk_f0 T).2.1 = hi.toNat / (zk_f0 T).2.1 then zk_fta V q T.2.2.2.tail 0 (lo.toNat % (zk_f0 T).2.1) (hi.toNat % (zk_f0 T).2.1) else zk_fta V q T.2.2.2.tail 0 0 ((zk_f0 T).2.1 - 1))
  else zk_fits V q (zk_f0 T)
theorem zk_wrT_ok {V : List zk_F} {q : zk_S} {T : zk_T} {lo hi : Int} (h : zk_wrT V q T lo hi = true) {j : Nat} (h1 : lo ≤ j) (h2 : (j : Int) ≤ hi) : zk_fits V q (zk_fj T j) = true := by
  unfold zk_wrT at h
  unfold zk_fj
  split at h
  · rename_i h9
    rw [if_pos h9]
    rw [Bool.and_eq_true] at h
    have c1 := of_decide_eq_true h.1
    have h := h.2
    split at h
    · rename_i hq
      have hm := zk_mods (p := (zk_f0 T).2.1) (a := lo.toNat) (j := j) (b := hi.toNat) (by omega) (by omega) hq
      exact zk_fta_ok hm.1 hm.2 h (Nat.zero_le _)
    · exact zk_fta_ok (Nat.zero_le _) (by have := Nat.mod_lt j c1; omega) h (Nat.zero_le _)
  · rename_i h9
    rw [if_neg h9]
    exact h
/-- the first content fits -/
def zk_df0 (f : zk_F) : Bool := if f.1 < 2 then decide (f.2.2.1 ≤ 0) && decide (0 ≤ f.2.2.2) else f.1 == 2 && decide (f.2.2.1 ≤ -1)
def zk_dfT (T : zk_T) (k : Nat) : Bool := if (zk_f0 T).1 = 9 then k == 0 && T.2.2.2.tail.all (fun f => f.1 == 0 && zk_df0 f) else (zk_f0 T).1 == k && zk_df0 (zk_f0 T)
theorem zk_df0_ok {P : Nat → Option Nat} {f : zk_F} (h : zk_df0 f = true) : zk_ok P f (if f.1 < 2 then 0 else -1) := by
  unfold zk_df0 at h
  obtain ⟨k, t, lo, hi⟩ := f
  match k, h with
  | 0, h =>
    simp only [Nat.lt_irrefl, if_pos (show 0 < 2 by decide), Bool.and_eq_true, decide_eq_true_eq] at h
    show zk_ok P (0, t, lo, hi) 0
    exact ⟨h.1, h.2, ⟨by decide, by decide⟩⟩
  | 1, h =>
    simp only [if_pos (show 1 < 2 by decide), Bool.and_eq_true, decide_eq_true_eq] at h
    show zk_ok P (1, t, lo, hi) 0
    exact ⟨h.1, h.2, ⟨by decide, by decide⟩⟩
  | 2, h =>
    simp only [if_neg (show ¬ 2 < 2 by decide), Bool.and_eq_true, decide_eq_true_eq] at h
    show zk_ok P (2, t, lo, hi) (-1)
    exact ⟨h.2, by decide, fun _ => by decide, fun z => absurd z (show ¬ (0 : Int) ≤ -1 by decide)⟩
  | k + 3, h =>
    have e : ¬ k + 3 < 2 := by omega
    simp [e] at h
theorem zk_dfT_ok {P : Nat → Option Nat} {T : zk_T} {k : Nat} (h : zk_dfT T k = true) (j : Nat) : (zk_fj T j).1 = k ∧ zk_ok P (zk_fj T j) (if k < 2 then 0 else -1) := by
  unfold zk_dfT at h
  unfold zk_fj
  split at h
  · rename_i h9
    rw [if_pos h9]
    simp only [Bool.and_eq_true, beq_iff_eq] at h
    obtain ⟨rfl, h⟩ := h
    generalize j % (zk_f0 T).2.1 = i
    generalize T.2.2.2.tail = rs at h ⊢
    induction rs with
    | nil =>
      refine ⟨rfl, ?_⟩
      show zk_ok P (0, 0, 0, 0) 0
      exact ⟨Int.le_refl _, Int.le_refl _, ⟨by decide, by decide⟩⟩
    | cons f r ih =>
      simp only [List.all_cons, Bool.and_eq_true, beq_iff_eq] at h
      unfold zk_rgn
      split
      · have := zk_df0_ok (P := P) h.1.2
        rw [h.1.1] at this
        exact ⟨h.1.1, this⟩
      · exact ih h.2
  · rename_i h9
    rw [if_neg h9]
    simp only [Bool.and_eq_true, beq_iff_eq] at h
    have := zk_df0_ok (P := P) h.2
    rw [h.1] at this
    exact ⟨h.1, this⟩
def zk_ak (k : Nat) : Nat := if k = 2 then 1 else 0
def zk_lk5 (lk : List zk_L) (k : Nat) : Bool := match zk_lk lk 5 k with
  | some e => e.2.2.1 == k
  | none => false
/-- the last place that an index may be at; the code of what is written there -/
def zk_hi (V : List zk_F) (qi : zk_S) (T : zk_T) : Int := min (zk_hg V qi) ((T.2.2.1 : Int) - 1)
def zk_ac (hi : Int) : Nat := if hi < 180 then 1002 else 1001
/-- note 7: what stands at a place that is a number is kept as a fact -/
def zk_lds (an : Nat) (κ : zk_C) (qi qa : zk_S) (g : zk_F) : zk_C × zk_S :=
  if an = 7 ∧ zk_lw κ.1 qi = zk_hg κ.1 qi then (match zk_fnd κ qa.1 (2000 + (zk_lw κ.1 qi).toNat) with
    | some r => (κ, r)
    | none => ((κ.1 ++ [g], κ.2.1, (qa.1, 2000 + (zk_lw κ.1 qi).toNat, (κ.1.length, 0)) :: κ.2.2.1, κ.2.2.2), (κ.1.length, 0)))
  else ((κ.1 ++ [g], κ.2), (κ.1.length, 0))
def zk_afs (an t : Nat) (κ : zk_C) (qv qi qa : zk_S) (hi : Int) : List (Nat × Nat × zk_S) :=
  if an = 7 ∧ zk_lw κ.1 qi = zk_hg κ.1 qi then (qa.1, 2000 + (zk_lw κ.1 qi).toNat, qv) :: κ.2.2.1.filter (zk_keep κ.1 t (2000 + (zk_lw κ.1 qi).toNat) (2000 + hi.toNat))
  else κ.2.2.1.filter (zk_keep κ.1 t (2000 + (zk_lw κ.1 qi).toNat) (2000 + hi.toNat))
def zk_s5 (ty : List zk_T) (lk : List zk_L) (dv : List (List zk_S)) (eff : List (Nat × Nat × Nat)) (rm : Nat × Nat × Nat × Nat) (ini : Bool) (an : Nat) (i : ClassFile.Instr) (len pc : Nat) (κ : zk_C) (st : List zk_S) (cu su : Nat) : Option zk_O := match i, st with
  | .getfield idx, q :: st' => if len = 3 then (zk_getR ty lk κ idx q).map (fun r => (pc + 3, r.1, r.2 :: st', cu, su)) else none
  | .putfield idx, qv :: q :: st' => if len = 3 then (zk_putR ty lk eff ini κ idx qv q).map (fun r => (pc + 3, r, st', cu, su)) else none
  | .iaload, qi :: qa :: st' => match zk_typ ty κ qa with
    | some (_, T) => match zk_rdT T (zk_lw κ.1 qi) (zk_hi κ.1 qi T) with
      | some g => if len = 1 ∧ T.1 = 1 ∧ zk_ix κ qi qa T = true ∧ g.1 = 0 then some (pc + 1, (zk_lds an κ qi qa g).1, (zk_lds an κ qi qa g).2 :: st', cu, su) else none
      | none => none
    | none => none
  | .baload, qi :: qa :: st' => match zk_typ ty κ qa with
    | some (_, T) => match zk_rdT T (zk_lw κ.1 qi) (zk_hi κ.1 qi T) with
      | some g => if len = 1 ∧ T.1 = 4 ∧ zk_ix κ qi qa T = true ∧ g.1 = 0 then some (pc + 1, (κ.1 ++ [g], κ.2), (κ.1.length, 0) :: st', cu, su) else none
      | none => none
    | none => none
  | .laload, qi :: qa :: st' => match zk_typ ty κ qa with
    | some (_, T) => match zk_rdT T (zk_lw κ.1 qi) (zk_hi κ.1 qi T) with
      | some g => if len = 1 ∧ T.1 = 2 ∧ zk_ix κ qi qa T = true ∧ g.1 = 1 then some (pc + 1, (zk_lds an κ qi qa g).1, (zk_lds an κ qi qa g).2 :: st', cu, su) else none
      | none => none
    | none => none
  | .aaload, qi :: qa :: st' => match zk_typ ty κ qa with
    | some (_, T) => match zk_rdT T (zk_lw κ.1 qi) (zk_hi κ.1 qi T) with
      | some g => if len = 1 ∧ T.1 = 3 ∧ zk_ix κ qi qa T = true ∧ g.1 = 2 then some (pc + 1, (κ.1 ++ [g], κ.2), (κ.1.length, 0) :: st', cu, su) else none
      | none => none
    | none => none
  | .iastore, qv :: qi :: qa :: st' => match zk_typ ty κ qa with
    | some (t, T) => if len = 1 ∧ T.1 = 1 ∧ zk_ix κ qi qa T = true ∧ zk_kd κ.1 qv = 0 ∧ zk_wrT κ.1 qv T (zk_lw κ.1 qi) (zk_hi κ.1 qi T) = true ∧ zk_mayb eff κ t (zk_ac (zk_hi κ.1 qi T)) qa.1 = true ∧ zk_spb t (zk_hi κ.1 qi T) = true then some (pc + 1, (κ.1, κ.2.1, zk_afs an t κ qv qi qa (zk_hi κ.1 qi T), κ.2.2.2), st', cu, su) else none
    | none => none
  | .bastore, qv :: qi :: qa :: st' => match zk_typ ty κ qa with
    | some (t, T) => if len = 1 ∧ T.1 = 4 ∧ zk_ix κ qi qa T = true ∧ zk_kd κ.1 qv = 0 ∧ zk_wrT κ.1 qv T (zk_lw κ.1 qi) (zk_hi κ.1 qi T) = true ∧ zk_mayb eff κ t (zk_ac (zk_hi κ.1 qi T)) qa.1 = true ∧ zk_spb t (zk_hi κ.1 qi T) = true ∧ zk_tyb 3 κ.1 qv = true then some (pc + 1, (κ.1, κ.2.1, zk_afs an t κ qv qi qa (zk_hi κ.1 qi T), κ.2.2.2), st', cu, su) else none
    | none => none
  | .lastore, qv :: qi :: qa :: st' => match zk_typ ty κ qa with
    | some (t, T) => if len = 1 ∧ T.1 = 2 ∧ zk_ix κ qi qa T = true ∧ zk_kd κ.1 qv = 1 ∧ zk_wrT κ.1 qv T (zk_lw κ.1 qi) (zk_hi κ.1 qi T) = true ∧ zk_mayb eff κ t (zk_ac (zk_hi κ.1 qi T)) qa.1 = true ∧ zk_spb t (zk_hi κ.1 qi T) = true then some (pc + 1, (κ.1, κ.2.1, zk_afs an t κ qv qi qa (zk_hi κ.1 qi T), κ.2.2.2), st', cu, su) else none
    | none => none
  | .arraylength, qa :: st' => match zk_typ ty κ qa with
    | some (_, T) => if len = 1 ∧ (T.1 = 1 ∨ T.1 = 2 ∨ T.1 = 3 ∨ T.1 = 4) ∧ T.2.2.1 ≤ 2147483647 then (match zk_fnd κ qa.1 1000 with
      | some r => some (pc + 1, κ, r :: st', cu, su)
      | none => some (pc + 1, (κ.1 ++ [(0, 0, (T.2.1 : Int), (T.2.2.1 : Int))], κ.2.1, (qa.1, 1000, (κ.1.length, 0)) :: κ.2.2.1, κ.2.2.2), (κ.1.length, 0) :: st', cu, su)) else none
    | none => none
  | .newarray at', qn :: st' => match ty[an]? with
    | some T => if len = 2 ∧ ((at' = .int ∧ T.1 = 1) ∨ (at' = .long ∧ T.1 = 2) ∨ (at' = .boolean ∧ T.1 = 4)) ∧ zk_lk5 lk T.1 = true ∧ zk_kd κ.1 qn = 0 ∧ (T.2.1 : Int) ≤ zk_lw κ.1 qn ∧ zk_hg κ.1 qn ≤ (T.2.2.1 : Int) ∧ zk_hg κ.1 qn ≤ 1000000 ∧ zk_dfT T (zk_ak T.1) = true ∧ cu + 1 ≤ rm.2.2.1 ∧ su + (zk_hg κ.1 qn).toNat ≤ rm.2.2.2 then
        some (pc + 2, (κ.1 ++ [(2, an, 0, 0)], κ.2.1, [(κ.1.length, 1000, qn)] ++ κ.2.2.1, κ.2.2.2.1, κ.2.2.2.2.1, κ.2.2.2.2.2.1, κ.1.length :: κ.2.2.2.2.2.2), (κ.1.length, 0) :: st', cu + 1, su + (zk_hg κ.1 qn).toNat) else none
    | none => none
  | .anewarray idx, qn :: st' => match ty[an]?, zk_lk lk 4 idx with
    | some T, some e => match ty[(zk_f0 T).2.1]? with
      | some T2 => if len = 3 ∧ T.1 = 3 ∧ T2.1 = 0 ∧ T2.2.1 = e.2.2.1 ∧ zk_kd κ.1 qn = 0 ∧ (T.2.1 : Int) ≤ zk_lw κ.1 qn ∧ zk_hg κ.1 qn ≤ (T.2.2.1 : Int) ∧ zk_hg κ.1 qn ≤ 1000000 ∧ zk_dfT T 2 = true ∧ cu + 1 ≤ rm.2.2.1 ∧ su + (zk_hg κ.1 qn).toNat ≤ rm.2.2.2 then
        some (pc + 3, (κ.1 ++ [(2, an, 0, 0)], κ.2.1, [(κ.1.length, 1000, qn)] ++ κ.2.2.1, κ.2.2.2.1, κ.2.2.2.2.1, κ.2.2.2.2.2.1, κ.1.length :: κ.2.2.2.2.2.2), (κ.1.length, 0) :: st', cu + 1, su + (zk_hg κ.1 qn).toNat) else none
      | none => none
    | _, _ => none
  | .new idx, st' => match zk_lk lk 3 idx with
    | some e => match dv[e.2.2.1]? with
      | some ds => if len = 3 ∧ κ.1[0]? = some (0, 0, 0, 0) ∧ κ.1[1]? = some (1, 0, 0, 0) ∧ κ.1[2]? = some (2, 0, -1, -1) ∧ cu + 1 ≤ rm.2.2.1 ∧ su + e.2.2.2.1 ≤ rm.2.2.2 then
        some (pc + 3, (κ.1 ++ [(3, 0, 0, 0)], κ.2.1, κ.2.2.1, (κ.1.length, e.2.2.1, ds) :: κ.2.2.2.1, κ.2.2.2.2.1, κ.2.2.2.2.2.1, κ.1.length :: κ.2.2.2.2.2.2), (κ.1.length, 0) :: st', cu + 1, su + e.2.2.2.1) else none
      | none => none
    | none => none
  | _, _ => none
end
section
/-! part 14: the steps on arrays and on what is made hold -/
def zk_dvok (w : zk_W) (dv : List (List zk_S)) : Prop := ∀ (ci : Nat) (C : String) (T : u_T) (N : Nat), w.2.1[ci]? = some (C, T, N) → ∃ ds, dv[ci]? = some ds ∧ ds.length = N ∧ ∀ (j : Nat) (ty : FieldType), j < N → parseFieldDescriptor (T j).2.2.1 = some ty → ds[j]? = some (zk_dk ty, 0) ∧ zk_tyc ty ≠ 9
def zk_dval (q : zk_S) : Value := zk_mk q.1 (if q.1 = 2 then -1 else 0)
theorem zk_dval_ok {ty : FieldType} (h : zk_tyc ty ≠ 9) : defaultValue ty = zk_dval (zk_dk ty, 0) := by
  cases ty
  case float => exact absurd rfl h
  case double => exact absurd rfl h
  all_goals rfl
section ZK14
variable {p : Program} {l : Launch} {e : Env} {R : Room} {s : State} {m : MethodId} {args : Array Value} {below : List Frame} {meth : Method} {c : Code} {Q : State → Prop}
variable {cc : ByteArray} {w : zk_W} {u : zk_M} {Ts : List Jvm.Cond} {own : String}
theorem zk_len32 {T : zk_T} {x : vp_A} (h : x.1 ≤ T.2.2.1) (h2 : T.2.2.1 ≤ 2147483647) : zk_rg 0 (x.1 : Int) := ⟨by omega, by omega⟩
theorem zk_all2_ofall {α β : Type} {R : α → β → Prop} {f : α → β} : ∀ {l : List α}, (∀ a ∈ l, R a (f a)) → zk_all2 R l (l.map f)
  | [], _ => trivial
  | a :: l, h => ⟨h a List.mem_cons_self, zk_all2_ofall (fun b hb => h b (List.mem_cons_of_mem _ hb))⟩
theorem zk_ac_ok {hi lo : Int} (h0 : 0 ≤ lo) (hb : hi ≤ 2147483647) {k : Nat} (hk : 2000 + lo.toNat ≤ k ∧ k ≤ 2000 + hi.toNat) : zk_pm (zk_ac hi) k := by
  unfold zk_ac
  split
  · show 2000 ≤ k ∧ k ≤ 2179
    omega
  · show 2000 ≤ k ∧ k ≤ 1000000000000
    omega
theorem zk_rd_i {cA : ClassId} {n j : Nat} {f : Nat → Int32} (h : j < n) : zk_rd (.inl (cA, n, .inl f)) (2000 + j) = some (.int (f j)) := by
  unfold zk_rd zk_av
  dsimp only
  rw [if_neg (by omega), if_pos ⟨by omega, by omega⟩, Nat.add_sub_cancel_left]
theorem zk_rd_l {cA : ClassId} {n j : Nat} {f : Nat → Int64} (h : j < n) : zk_rd (.inl (cA, n, .inr (.inl f))) (2000 + j) = some (.long (f j)) := by
  unfold zk_rd zk_av
  dsimp only
  rw [if_neg (by omega), if_pos ⟨by omega, by omega⟩, Nat.add_sub_cancel_left]
theorem zk_afs_ok {κ : zk_C} {N : List Int} {P : Nat → Option Nat} {F : Nat → va_E} (hV : zk_all2 (zk_ok P) κ.1 N) (hfa : zk_fa κ.1 N P F κ.2.2.1) {an a t : Nat} {e' : va_E} (hp : P a = some t) {qv qi qa : zk_S} (hna : N[qa.1]? = some (a : Int)) {hi j : Int} (h1 : zk_lw κ.1 qi ≤ j) (h2 : j ≤ zk_hg κ.1 qi) (hs : zk_same (fun k => 2000 + (zk_lw κ.1 qi).toNat ≤ k ∧ k ≤ 2000 + hi.toNat) (F a) e') {vv : Value} (hrd : zk_rd e' (2000 + j.toNat) = some vv) (hsv : zk_sv κ.1 N qv vv) : zk_fa κ.1 N P (zk_up F a e') (zk_afs an t κ qv qi qa hi) := by
  have hf : ∀ z ∈ κ.2.2.1.filter (zk_keep κ.1 t (2000 + (zk_lw κ.1 qi).toNat) (2000 + hi.toNat)), zk_fa1 κ.1 N P (zk_up F a e') z.1 z.2.1 z.2.2 := fun z hz => by
    obtain ⟨z1, z2⟩ := List.mem_filter.mp hz
    exact zk_fa1_keep hV (hfa z z1) hp hs z2
  unfold zk_afs
  split
  · rename_i hc
    intro z hz
    rcases List.mem_cons.mp hz with rfl | hz
    · refine ⟨(a : Int), t, vv, hna, Int.natCast_nonneg _, by rw [Int.toNat_natCast]; exact hp, ?_, hsv⟩
      rw [Int.toNat_natCast, zk_up_self]
      have e1 : zk_lw κ.1 qi = j := by omega
      dsimp only
      rw [e1]
      exact hrd
    · exact hf z hz
  · exact hf
theorem zk_lds_ok {κ : zk_C} {N : List Int} {P : Nat → Option Nat} {F : Nat → va_E} {H : Heap} {locs : List Loc} {ls : Array Slot} (hG : zk_G w s u κ N P F H locs ls) {an a t : Nat} {qi qa : zk_S} {g : zk_F} (hna : N[qa.1]? = some (a : Int)) (hp : P a = some t) {j : Int} (h1 : zk_lw κ.1 qi ≤ j) (h2 : j ≤ zk_hg κ.1 qi) {z : Int} (hz : zk_ok P g z) {v : Value} (hv : v = zk_mk g.1 z) (hrd : zk_rd (F a) (2000 + j.toNat) = some v) :
    ∃ N', zk_G w s u (zk_lds an κ qi qa g).1 N' P F H locs ls ∧ zk_le κ.1 N (zk_lds an κ qi qa g).1.1 N' ∧ zk_sv (zk_lds an κ qi qa g).1.1 N' (zk_lds an κ qi qa g).2 v := by
  have hsv := zk_sv_last hG.1 hz
  rw [← hv] at hsv
  have hG2 := hG.push hz
  unfold zk_lds
  split
  · rename_i hc
    have e1 : zk_lw κ.1 qi = j := by omega
    rw [e1]
    split
    · rename_i r hr
      obtain ⟨v', g1, g2⟩ := zk_fnd_ok hG.2.2.1 hr hna
      rw [hrd] at g1
      cases g1
      exact ⟨N, hG, zk_le.rf, g2⟩
    · refine ⟨_, ⟨hG2.1, hG2.2.1, fun q hq => ?_, hG2.2.2.2⟩, zk_le.snoc _ _, hsv⟩
      rcases List.mem_cons.mp hq with rfl | hq
      · exact ⟨(a : Int), t, v, zk_get_snoc hna, Int.natCast_nonneg _, by rw [Int.toNat_natCast]; exact hp, by rw [Int.toNat_natCast]; exact hrd, hsv⟩
      · exact hG2.2.2.1 q hq
  · exact ⟨_, hG2, zk_le.snoc _ _, hsv⟩
theorem zk_s5_ok (hx : p.tables.exec = Jvm.exec) (hb : c.code = cc) (hts : ∀ x ∈ Ts, x.before args s = true) (hcl : zk_cls w Ts) (hown : s.vm.findClass own = some m.cls) (hK : va_K w.2.2.1 w.2.1 [] s) {ty : List zk_T} (hw : w.1 = ty) (hbs : w.2.2.2.1 ≤ s.heap.size) {lk : List zk_L} (hlk : ∀ q ∈ lk, zk_lkok w s args own q) {dv : List (List zk_S)} (hdv : zk_dvok w dv) {ini : Bool} (hini : ini = true → meth.name = "<init>") {rm : Nat × Nat × Nat × Nat} (hR : rm.1 ≤ R.frames ∧ rm.2.1 ≤ R.locals ∧ rm.2.2.1 ≤ R.cells ∧ rm.2.2.2 ≤ R.slots) {an : Nat} {i : ClassFile.Instr} {len pc : Nat} {κ : zk_C} {st : List zk_S} {cu su : Nat} {o : zk_O} (hs : zk_s5 ty lk dv u.2.2.2.1 rm ini an i len pc κ st cu su = some o) (hdg : decode cc pc = .ok (i, len)) (kk : zk_J p l e R s m args below meth c Q w u o.2.1 o.2.2.1 o.2.2.2.1 o.2.2.2.2 o.1) : zk_J p l e R s m args below meth c Q w u κ st cu su pc := by
  unfold zk_s5 at hs
  split at hs
  · rename_i idx q st'
    split at hs
    · rename_i hl
      subst hl
      obtain ⟨r, h1, h2⟩ := Option.map_eq_some_iff.mp hs
      cases h2
      exact zk_getR_ok hx hb hts hcl hown hK hw hlk h1 hdg kk
    · cases hs
  · rename_i idx qv q st'
    split at hs
    · rename_i hl
      subst hl
      obtain ⟨r, h1, h2⟩ := Option.map_eq_some_iff.mp hs
      cases h2
      exact zk_putR_ok hx hb hts hcl hown hK hw hlk hini h1 hdg kk
    · cases hs
  · rename_i qi qa st'
    split at hs
    · rename_i t T hT
      split at hs
      · rename_i g hg
        split at hs
        · rename_i hc
          obtain ⟨rfl, c1, c2, c3⟩ := hc
          cases hs
          intro N P F H locs ls sv hG hS
          match sv, hS with
          | vi :: va :: sv', hS =>
            obtain ⟨a, rfl, hna, hp, hwT⟩ := zk_typ_ok hw hG.1 hT hS.2.1
            obtain ⟨cA, n, f, o1, o2, o3, o4, o5, o6, o7⟩ := zk_iarr hG.2.2.2.2.1 hp hwT (Or.inl c1)
            obtain ⟨j, rfl, j1, j2, j3, j4, j5, j6, j7⟩ := zk_ix_ok hG c2 hS.1 hna o1 o2 o3
            dsimp only at j3 j6
            obtain ⟨z, z1, z2⟩ := o5 j.toNat (by omega)
            obtain ⟨y1, y2⟩ := zk_rdT_ok hg (by omega) (by unfold zk_hi; omega) z1
            rw [c1] at o4
            obtain ⟨N', g1, g2, g3⟩ := zk_lds_ok hG (an := an) (g := g) hna hp j4 j5 y2 (z2.trans (by rw [y1])) (by rw [o1]; exact zk_rd_i (by omega))
            refine zw_iald hx hb o6 o4 j6 hdg (kk _ P F H locs ls _ g1 ⟨?_, zk_sv_mono g2 hS.2.2⟩)
            rw [j7]
            exact g3
        · cases hs
      · cases hs
    · cases hs
  · rename_i qi qa st'
    split at hs
    · rename_i t T hT
      split at hs
      · rename_i g hg
        split at hs
        · rename_i hc
          obtain ⟨rfl, c1, c2, c3⟩ := hc
          cases hs
          intro N P F H locs ls sv hG hS
          match sv, hS with
          | vi :: va :: sv', hS =>
            obtain ⟨a, rfl, hna, hp, hwT⟩ := zk_typ_ok hw hG.1 hT hS.2.1
            obtain ⟨cA, n, f, o1, o2, o3, o4, o5, o6, o7⟩ := zk_iarr hG.2.2.2.2.1 hp hwT (Or.inr c1)
            obtain ⟨j, rfl, j1, j2, j3, j4, j5, j6, j7⟩ := zk_ix_ok hG c2 hS.1 hna o1 o2 o3
            dsimp only at j3 j6
            obtain ⟨z, z1, z2⟩ := o5 j.toNat (by omega)
            obtain ⟨y1, y2⟩ := zk_rdT_ok hg (by omega) (by unfold zk_hi; omega) z1
            rw [c1] at o4
            refine zw_zald hx hb o6 o4 j6 hdg (kk _ P F H locs ls _ (hG.push y2) ⟨?_, zk_sv_mono (zk_le.snoc _ _) hS.2.2⟩)
            rw [j7, z2, y1]
            exact zk_sv_last hG.1 y2
        · cases hs
      · cases hs
    · cases hs
  · rename_i qi qa st'
    split at hs
    · rename_i t T hT
      split at hs
      · rename_i g hg
        split at hs
        · rename_i hc
          obtain ⟨rfl, c1, c2, c3⟩ := hc
          cases hs
          intro N P F H locs ls sv hG hS
          match sv, hS with
          | vi :: va :: sv', hS =>
            obtain ⟨a, rfl, hna, hp, hwT⟩ := zk_typ_ok hw hG.1 hT hS.2.1
            obtain ⟨cA, n, f, o1, o2, o3, o4, o5, o6, o7⟩ := zk_larr hG.2.2.2.2.1 hp hwT c1
            obtain ⟨j, rfl, j1, j2, j3, j4, j5, j6, j7⟩ := zk_ix_ok hG c2 hS.1 hna o1 o2 o3
            dsimp only at j3 j6
            obtain ⟨z, z1, z2⟩ := o5 j.toNat (by omega)
            obtain ⟨y1, y2⟩ := zk_rdT_ok hg (by omega) (by unfold zk_hi; omega) z1
            obtain ⟨N', g1, g2, g3⟩ := zk_lds_ok hG (an := an) (g := g) hna hp j4 j5 y2 (z2.trans (by rw [y1])) (by rw [o1]; exact zk_rd_l (by omega))
            refine zw_lald hx hb o6 o4 j6 hdg (kk _ P F H locs ls _ g1 ⟨?_, zk_sv_mono g2 hS.2.2⟩)
            rw [j7]
            exact g3
        · cases hs
      · cases hs
    · cases hs
  · rename_i qi qa st'
    split at hs
    · rename_i t T hT
      split at hs
      · rename_i g hg
        split at hs
        · rename_i hc
          obtain ⟨rfl, c1, c2, c3⟩ := hc
          cases hs
          intro N P F H locs ls sv hG hS
          match sv, hS with
          | vi :: va :: sv', hS =>
            obtain ⟨a, rfl, hna, hp, hwT⟩ := zk_typ_ok hw hG.1 hT hS.2.1
            obtain ⟨cA, n, f, o1, o2, o3, o4, o4', o5, o6, o7⟩ := zk_qarr hG.2.2.2.2.1 hp hwT c1
            obtain ⟨j, rfl, j1, j2, j3, j4, j5, j6, j7⟩ := zk_ix_ok hG c2 hS.1 hna o1 o2 o3
            dsimp only at j3 j6
            obtain ⟨z, z1, z2⟩ := o5 j.toNat (by omega)
            obtain ⟨y1, y2⟩ := zk_rdT_ok hg (by omega) (by unfold zk_hi; omega) z1
            refine zw_aald hx hb o6 o4 j6 hdg (kk _ P F H locs ls _ (hG.push y2) ⟨?_, zk_sv_mono (zk_le.snoc _ _) hS.2.2⟩)
            rw [j7, z2, y1]
            exact zk_sv_last hG.1 y2
        · cases hs
      · cases hs
    · cases hs
  · rename_i qv qi qa st'
    split at hs
    · rename_i t T hT
      split at hs
      · rename_i hc
        obtain ⟨rfl, c1, c2, c3, c4, c5, c6⟩ := hc
        cases hs
        intro N P F H locs ls sv hG hS
        match sv, hS with
        | vv :: vi :: va :: sv', hS =>
          obtain ⟨a, rfl, hna, hp, hwT⟩ := zk_typ_ok hw hG.1 hT hS.2.2.1
          obtain ⟨cA, n, f, o1, o2, o3, o4, o5, o6, o7⟩ := zk_iarr hG.2.2.2.2.1 hp hwT (Or.inl c1)
          obtain ⟨j, rfl, j1, j2, j3, j4, j5, j6, j7⟩ := zk_ix_ok hG c2 hS.2.1 hna o1 o2 o3
          dsimp only at j3 j6
          obtain ⟨x, rfl, x1, -⟩ := hS.1.int hG.1 c3
          rw [c1] at o4
          have hhi : j ≤ zk_hi κ.1 qi T := by unfold zk_hi; omega
          have hhb : zk_hi κ.1 qi T ≤ 2147483647 := by have := hG.1; unfold zk_hi; unfold zk_ix at c2; simp only [Bool.and_eq_true, decide_eq_true_eq] at c2; have := c2.1.2; omega
          have hlo : 0 ≤ zk_lw κ.1 qi := by unfold zk_ix at c2; simp only [Bool.and_eq_true, decide_eq_true_eq] at c2; exact c2.1.1.2
          have hsame : zk_same (fun k => 2000 + (zk_lw κ.1 qi).toNat ≤ k ∧ k ≤ 2000 + (zk_hi κ.1 qi T).toNat) (F a) (.inl (cA, n, .inl (zk_up f j.toNat (Int32.ofInt x)))) := by
            rw [o1]
            refine ⟨rfl, rfl, fun i hi hP => ?_⟩
            show some (Value.int (f i)) = some (.int (zk_up f j.toNat _ i))
            rw [zk_up_ne (fun e => hP (by dsimp only; omega))]
          have hmay := zk_mayb_ok c5 hG.2.2.2.2.2.2.2.2.2.1 hG.2.2.2.2.2.2.2.2.2.2.1 hna (Int.natCast_nonneg _)
          rw [Int.toNat_natCast] at hmay
          have hxa : zk_rl P (zk_up F a (.inl (cA, n, .inl (zk_up f j.toNat (Int32.ofInt x))))) t (.inl (cA, n, .inl (zk_up f j.toNat (Int32.ofInt x)))) := by
            have hr0 := ((zk_wt1.some hwT).mp (hG.2.2.2.2.1 a t hp)).2.2.2
            rw [o1] at hr0
            exact zk_xi.put (f := fun i => (f i).toInt) (g := fun i => (zk_up f j.toNat (Int32.ofInt x) i).toInt) hr0 c6 (fun i hi => by show (f i).toInt = (zk_up f j.toNat (Int32.ofInt x) i).toInt; rw [zk_up_ne (fun e => by omega)])
          refine zw_iast hx hb o6 o4 j6 hdg (fun H1 jj e1 hz hk => ?_)
          rw [j7] at e1
          refine kk N P _ H1 _ ls sv' (zk_G.write hG hp hwT ?_ (show va_at _ _ (a, .inl (cA, n, .inl (zk_up f j.toNat (Int32.ofInt x)))) H1 from e1) hz hk (L := [⟨a, jj⟩]) (fun q hq => by rw [List.mem_singleton.mp hq]) hsame (hmay.imp (fun z => z) (fun z k hk2 => z k (zk_ac_ok hlo hhb hk2))) hxa (zk_afs_ok hG.1 hG.2.2.1 hp hna j4 j5 hsame (zk_rd_i (by omega)) (by rw [zk_up_self]; exact hS.1))) hS.2.2.2
          unfold zk_el
          rw [c1]
          refine ⟨cA, n, _, rfl, o2, o3, o4, fun i hi => ?_⟩
          by_cases hij : i = j.toNat
          · rw [hij, zk_up_self]
            exact zk_fits_ok hG.1 (zk_wrT_ok c4 (by omega) (by omega)) hS.1
          · rw [zk_up_ne hij]
            exact o5 i hi
      · cases hs
    · cases hs
  · rename_i qv qi qa st'
    split at hs
    · rename_i t T hT
      split at hs
      · rename_i hc
        obtain ⟨rfl, c1, c2, c3, c4, c5, c6, c7⟩ := hc
        cases hs
        intro N P F H locs ls sv hG hS
        match sv, hS with
        | vv :: vi :: va :: sv', hS =>
          obtain ⟨a, rfl, hna, hp, hwT⟩ := zk_typ_ok hw hG.1 hT hS.2.2.1
          obtain ⟨cA, n, f, o1, o2, o3, o4, o5, o6, o7⟩ := zk_iarr hG.2.2.2.2.1 hp hwT (Or.inr c1)
          obtain ⟨j, rfl, j1, j2, j3, j4, j5, j6, j7⟩ := zk_ix_ok hG c2 hS.2.1 hna o1 o2 o3
          dsimp only at j3 j6
          have htb := zk_tyb_ok (ty := .boolean) hG.1 rfl c7 hS.1
          obtain ⟨x, rfl, x1, -⟩ := hS.1.int hG.1 c3
          rw [c1] at o4
          have hhi : j ≤ zk_hi κ.1 qi T := by unfold zk_hi; omega
          have hhb : zk_hi κ.1 qi T ≤ 2147483647 := by have := hG.1; unfold zk_hi; unfold zk_ix at c2; simp only [Bool.and_eq_true, decide_eq_true_eq] at c2; have := c2.1.2; omega
          have hlo : 0 ≤ zk_lw κ.1 qi := by unfold zk_ix at c2; simp only [Bool.and_eq_true, decide_eq_true_eq] at c2; exact c2.1.1.2
          have hsame : zk_same (fun k => 2000 + (zk_lw κ.1 qi).toNat ≤ k ∧ k ≤ 2000 + (zk_hi κ.1 qi T).toNat) (F a) (.inl (cA, n, .inl (zk_up f j.toNat (Int32.ofInt x)))) := by
            rw [o1]
            refine ⟨rfl, rfl, fun i hi hP => ?_⟩
            show some (Value.int (f i)) = some (.int (zk_up f j.toNat _ i))
            rw [zk_up_ne (fun e => hP (by dsimp only; omega))]
          have hmay := zk_mayb_ok c5 hG.2.2.2.2.2.2.2.2.2.1 hG.2.2.2.2.2.2.2.2.2.2.1 hna (Int.natCast_nonneg _)
          rw [Int.toNat_natCast] at hmay
          have hxa : zk_rl P (zk_up F a (.inl (cA, n, .inl (zk_up f j.toNat (Int32.ofInt x))))) t (.inl (cA, n, .inl (zk_up f j.toNat (Int32.ofInt x)))) := by
            have hr0 := ((zk_wt1.some hwT).mp (hG.2.2.2.2.1 a t hp)).2.2.2
            rw [o1] at hr0
            exact zk_xi.put (f := fun i => (f i).toInt) (g := fun i => (zk_up f j.toNat (Int32.ofInt x) i).toInt) hr0 c6 (fun i hi => by show (f i).toInt = (zk_up f j.toNat (Int32.ofInt x) i).toInt; rw [zk_up_ne (fun e => by omega)])
          refine zw_zast hx hb o6 o4 j6 htb.1 hdg (fun H1 jj e1 hz hk => ?_)
          rw [j7] at e1
          refine kk N P _ H1 _ ls sv' (zk_G.write hG hp hwT ?_ (show va_at _ _ (a, .inl (cA, n, .inl (zk_up f j.toNat (Int32.ofInt x)))) H1 from e1) hz hk (L := [⟨a, jj⟩]) (fun q hq => by rw [List.mem_singleton.mp hq]) hsame (hmay.imp (fun z => z) (fun z k hk2 => z k (zk_ac_ok hlo hhb hk2))) hxa (zk_afs_ok hG.1 hG.2.2.1 hp hna j4 j5 hsame (zk_rd_i (by omega)) (by rw [zk_up_self]; exact hS.1))) hS.2.2.2
          unfold zk_el
          rw [c1]
          refine ⟨cA, n, _, rfl, o2, o3, o4, fun i hi => ?_⟩
          by_cases hij : i = j.toNat
          · rw [hij, zk_up_self]
            exact zk_fits_ok hG.1 (zk_wrT_ok c4 (by omega) (by omega)) hS.1
          · rw [zk_up_ne hij]
            exact o5 i hi
      · cases hs
    · cases hs
  · rename_i qv qi qa st'
    split at hs
    · rename_i t T hT
      split at hs
      · rename_i hc
        obtain ⟨rfl, c1, c2, c3, c4, c5, c6⟩ := hc
        cases hs
        intro N P F H locs ls sv hG hS
        match sv, hS with
        | vv :: vi :: va :: sv', hS =>
          obtain ⟨a, rfl, hna, hp, hwT⟩ := zk_typ_ok hw hG.1 hT hS.2.2.1
          obtain ⟨cA, n, f, o1, o2, o3, o4, o5, o6, o7⟩ := zk_larr hG.2.2.2.2.1 hp hwT c1
          obtain ⟨j, rfl, j1, j2, j3, j4, j5, j6, j7⟩ := zk_ix_ok hG c2 hS.2.1 hna o1 o2 o3
          dsimp only at j3 j6
          obtain ⟨x, rfl, x1, -⟩ := hS.1.long hG.1 c3
          have hhi : j ≤ zk_hi κ.1 qi T := by unfold zk_hi; omega
          have hhb : zk_hi κ.1 qi T ≤ 2147483647 := by have := hG.1; unfold zk_hi; unfold zk_ix at c2; simp only [Bool.and_eq_true, decide_eq_true_eq] at c2; have := c2.1.2; omega
          have hlo : 0 ≤ zk_lw κ.1 qi := by unfold zk_ix at c2; simp only [Bool.and_eq_true, decide_eq_true_eq] at c2; exact c2.1.1.2
          have hsame : zk_same (fun k => 2000 + (zk_lw κ.1 qi).toNat ≤ k ∧ k ≤ 2000 + (zk_hi κ.1 qi T).toNat) (F a) (.inl (cA, n, .inr (.inl (zk_up f j.toNat (Int64.ofInt x))))) := by
            rw [o1]
            refine ⟨rfl, rfl, fun i hi hP => ?_⟩
            show some (Value.long (f i)) = some (.long (zk_up f j.toNat _ i))
            rw [zk_up_ne (fun e => hP (by dsimp only; omega))]
          have hmay := zk_mayb_ok c5 hG.2.2.2.2.2.2.2.2.2.1 hG.2.2.2.2.2.2.2.2.2.2.1 hna (Int.natCast_nonneg _)
          rw [Int.toNat_natCast] at hmay
          have hxa : zk_rl P (zk_up F a (.inl (cA, n, .inr (.inl (zk_up f j.toNat (Int64.ofInt x)))))) t (.inl (cA, n, .inr (.inl (zk_up f j.toNat (Int64.ofInt x))))) := by
            have hr0 := ((zk_wt1.some hwT).mp (hG.2.2.2.2.1 a t hp)).2.2.2
            rw [o1] at hr0
            trivial
          refine zw_last hx hb o6 o4 j6 hdg (fun H1 jj e1 hz hk => ?_)
          rw [j7] at e1
          refine kk N P _ H1 _ ls sv' (zk_G.write hG hp hwT ?_ (show va_at _ _ (a, .inl (cA, n, .inr (.inl (zk_up f j.toNat (Int64.ofInt x))))) H1 from e1) hz hk (L := [⟨a, jj⟩]) (fun q hq => by rw [List.mem_singleton.mp hq]) hsame (hmay.imp (fun z => z) (fun z k hk2 => z k (zk_ac_ok hlo hhb hk2))) hxa (zk_afs_ok hG.1 hG.2.2.1 hp hna j4 j5 hsame (zk_rd_l (by omega)) (by rw [zk_up_self]; exact hS.1))) hS.2.2.2
          unfold zk_el
          rw [c1]
          refine ⟨cA, n, _, rfl, o2, o3, o4, fun i hi => ?_⟩
          by_cases hij : i = j.toNat
          · rw [hij, zk_up_self]
            exact zk_fits_ok hG.1 (zk_wrT_ok c4 (by omega) (by omega)) hS.1
          · rw [zk_up_ne hij]
            exact o5 i hi
      · cases hs
    · cases hs
  · rename_i qa st'
    split at hs
    · rename_i t T hT
      split at hs
      · rename_i hc
        obtain ⟨rfl, c1, c2⟩ := hc
        split at hs
        · rename_i r hr
          cases hs
          intro N P F H locs ls sv hG hS
          match sv, hS with
          | va :: sv', hS =>
            obtain ⟨a, rfl, hna, hp, hwT⟩ := zk_typ_ok hw hG.1 hT hS.1
            obtain ⟨cA, x, fty, o1, o2, o3, o4, o5⟩ := zk_aarr hG.2.2.2.2.1 hp hwT c1
            obtain ⟨v, g1, g2⟩ := zk_fnd_ok hG.2.2.1 hr hna
            rw [o1] at g1
            have g1 : some (Value.int (Int32.ofNat x.1)) = some v := g1
            cases g1
            exact zw_alen hx hb o5 o4 hdg (kk N P F H locs ls _ hG ⟨g2, hS.2⟩)
        · cases hs
          intro N P F H locs ls sv hG hS
          match sv, hS with
          | va :: sv', hS =>
            obtain ⟨a, rfl, hna, hp, hwT⟩ := zk_typ_ok hw hG.1 hT hS.1
            obtain ⟨cA, x, fty, o1, o2, o3, o4, o5⟩ := zk_aarr hG.2.2.2.2.1 hp hwT c1
            have f1 : zk_ok P (0, 0, (T.2.1 : Int), (T.2.2.1 : Int)) (x.1 : Int) := ⟨by dsimp only; omega, by dsimp only; omega, zk_len32 o3 c2⟩
            have hl := zk_le.snoc (V := κ.1) (N := N) (0, 0, (T.2.1 : Int), (T.2.2.1 : Int)) (x.1 : Int)
            have hsv := zk_sv_last hG.1 f1
            have hG2 := hG.push f1
            refine zw_alen hx hb o5 o4 hdg (kk _ P F H locs ls _ ⟨hG2.1, hG2.2.1, fun z hz => ?_, hG2.2.2.2⟩ ⟨hsv, zk_sv_mono hl hS.2⟩)
            rcases List.mem_cons.mp hz with rfl | hz
            · exact ⟨(a : Int), t, _, hl.1 _ _ hna, Int.natCast_nonneg _, by rw [Int.toNat_natCast]; exact hp, by rw [Int.toNat_natCast, o1]; rfl, hsv⟩
            · exact hG2.2.2.1 z hz
      · cases hs
    · cases hs
  · rename_i at' qn st'
    split at hs
    · rename_i T hT
      split at hs
      · rename_i hc
        obtain ⟨rfl, c1, c2, c3, c4, c5, c6, c7, c8, c9⟩ := hc
        cases hs
        intro N P F H locs ls sv hG hS
        match sv, hS with
        | vn :: sv', hS =>
          obtain ⟨n, rfl, n1, n2, n3, -⟩ := hS.1.int hG.1 c3
          have c2a : (Jvm.Cond.arrayClass (zk_aty2 T.1)).before args s = true := by
            unfold zk_lk5 at c2
            split at c2
            · rename_i e he
              obtain ⟨k0, k1, k2, k3, k4⟩ := e
              obtain ⟨e1, e2, e3⟩ := zk_lk_ok hlk he
              dsimp only at e1 e2
              subst e1
              have c2 : k2 = T.1 := by simpa using c2
              rw [← c2]
              exact e3
            · cases c2
          have r3 := hR.2.2.1
          have r4 := hR.2.2.2
          have hT' : w.1[an]? = some T := by rw [hw]; exact hT
          have hnn : ¬ Int32.ofInt n < 0 := by
            rw [← zk_z32, zk_lt32 n1 ⟨by decide, by decide⟩]
            omega
          have hN : (Int32.ofInt n).toNatClampNeg = n.toNat := by
            show (Int32.ofInt n).toInt.toNat = _
            rw [zk_i32 n1]
          have fin : ∀ (H1 : Heap) (e' : va_E) (q : Nat × Nat), zk_el w s P T e' → va_at w.2.2.1 w.2.1 (H.size, e') H1 → H1.size = H.size + 1 → (∀ q, q < H.size → H1[q]? = H[q]?) → zk_rd e' 1000 = some (.int (Int32.ofInt n)) → (∃ x : ClassId × vp_A, e' = .inl x ∧ zk_xa an x.2) → W p l e R s m args below meth c H1 locs (cu + 1) (su + n.toNat) Q (F0 m (pc + 2) ls (.ref H.size :: sv')) := by
            intro H1 e' q h1 h2 h3 h4 h5 h6
            have hA := zk_G.alloc hG hbs hT' h1 h2 h3 h4 (by obtain ⟨x, rfl, h7⟩ := h6; exact h7) (A := [(κ.1.length, 1000, qn)]) (fun q hq => by
              rw [List.mem_singleton.mp hq]
              exact ⟨_, rfl, h5, hS.1⟩)
            have hl := zk_le.snoc (V := κ.1) (N := N) (2, an, 0, 0) (H.size : Int)
            refine W.widen (Nat.le_refl _) (show su + n.toNat ≤ su + (zk_hg κ.1 qn).toNat by omega) ?_
            refine kk _ _ _ H1 locs ls _ hA ⟨?_, zk_sv_mono hl hS.2⟩
            refine ⟨(2, an, 0, 0), (H.size : Int), zk_get_last, by rw [zk_all2_len hG.1]; exact zk_get_last, trivial, ?_⟩
            show Value.ref H.size = if (H.size : Int) + 0 < 0 then Value.null else Value.ref ((H.size : Int) + 0).toNat
            rw [if_neg (by omega), Int.add_zero, Int.toNat_natCast]
          have hrd : Value.int (Int32.ofNat n.toNat) = .int (Int32.ofInt n) := by
            rw [zk_n32 (by omega)]
            congr 2
            omega
          rcases c1 with ⟨rfl, c1⟩ | ⟨rfl, c1⟩ | ⟨rfl, c1⟩
          · rw [c1] at c2a c7
            refine zw_newa (ty := .int) (a0 := (n.toNat, .inl (fun _ => 0))) hx hb rfl c2a (fun cA => rfl) hnn hN (by show n.toNat * 4 ≤ _; omega) (by omega) (by omega) hdg (fun H1 cA y1 y2 y3 y4 => fin H1 (.inl (cA, n.toNat, .inl (fun _ => 0))) (0, 0) ?_ y1 y2 y3 (congrArg some hrd) ⟨_, rfl, (by first | exact zk_xi.zero _ | trivial)⟩)
            unfold zk_el
            rw [c1]
            refine ⟨cA, _, _, rfl, by omega, by omega, y4, fun j hj => ?_⟩
            obtain ⟨d1, d2⟩ := zk_dfT_ok (P := P) c7 j
            exact ⟨0, d2, by rw [d1]; rfl⟩
          · rw [c1] at c2a c7
            refine zw_newa (ty := .long) (a0 := (n.toNat, .inr (.inl (fun _ => 0)))) hx hb rfl c2a (fun cA => rfl) hnn hN (by show n.toNat * 8 ≤ _; omega) (by omega) (by omega) hdg (fun H1 cA y1 y2 y3 y4 => fin H1 (.inl (cA, n.toNat, .inr (.inl (fun _ => 0)))) (0, 0) ?_ y1 y2 y3 (congrArg some hrd) ⟨_, rfl, (by first | exact zk_xi.zero _ | trivial)⟩)
            unfold zk_el
            rw [c1]
            refine ⟨cA, _, _, rfl, by omega, by omega, y4, fun j hj => ?_⟩
            obtain ⟨d1, d2⟩ := zk_dfT_ok (P := P) c7 j
            exact ⟨0, d2, by rw [d1]; rfl⟩
          · rw [c1] at c2a c7
            refine zw_newa (ty := .boolean) (a0 := (n.toNat, .inl (fun _ => 0))) hx hb rfl c2a (fun cA => rfl) hnn hN (by show n.toNat * 1 ≤ _; omega) (by omega) (by omega) hdg (fun H1 cA y1 y2 y3 y4 => fin H1 (.inl (cA, n.toNat, .inl (fun _ => 0))) (0, 0) ?_ y1 y2 y3 (congrArg some hrd) ⟨_, rfl, (by first | exact zk_xi.zero _ | trivial)⟩)
            unfold zk_el
            rw [c1]
            refine ⟨cA, _, _, rfl, by omega, by omega, y4, fun j hj => ?_⟩
            obtain ⟨d1, d2⟩ := zk_dfT_ok (P := P) c7 j
            exact ⟨0, d2, by rw [d1]; rfl⟩
      · cases hs
    · cases hs
  · rename_i idx qn st'
    split at hs
    · rename_i T e hT he
      split at hs
      · rename_i T2 hT2
        split at hs
        · rename_i hc
          obtain ⟨rfl, c1, c2, c2', c3, c4, c5, c6, c7, c8, c9⟩ := hc
          cases hs
          intro N P F H locs ls sv hG hS
          match sv, hS with
          | vn :: sv', hS =>
            obtain ⟨n, rfl, n1, n2, n3, -⟩ := hS.1.int hG.1 c3
            obtain ⟨k0, k1, k2, k3, k4⟩ := e
            obtain ⟨e1, e2, e3⟩ := zk_lk_ok hlk he
            dsimp only at e1 e2 c2'
            subst e1; subst e2
            obtain ⟨C, T0, N0, e4, e5, e6⟩ := e3
            dsimp only at e4 e5
            have r3 := hR.2.2.1
            have r4 := hR.2.2.2
            have hT' : w.1[an]? = some T := by rw [hw]; exact hT
            have hrn : zk_rn w T = C := by
              unfold zk_rn
              rw [hw, hT2]
              dsimp only
              rw [List.getD_eq_getElem?_getD, c2', e4]
              rfl
            have hnn : ¬ Int32.ofInt n < 0 := by
              rw [← zk_z32, zk_lt32 n1 ⟨by decide, by decide⟩]
              omega
            have hN : (Int32.ofInt n).toNatClampNeg = n.toNat := by
              show (Int32.ofInt n).toInt.toNat = _
              rw [zk_i32 n1]
            refine zw_newq hx hb hown e5 e6 hnn hN (by omega) (by omega) (by omega) hdg (fun H1 cA y1 y2 y3 y4 y5 => ?_)
            have hA := zk_G.alloc hG hbs hT' (e' := .inl (cA, n.toNat, .inr (.inr (.inr (.inr (fun _ => none)))))) (by
              unfold zk_el
              rw [c1]
              refine ⟨cA, _, _, rfl, by omega, by omega, by rw [hrn]; exact y4, by rw [hrn]; exact y5, fun j hj => ?_⟩
              obtain ⟨d1, d2⟩ := zk_dfT_ok (P := P) c7 j
              exact ⟨-1, d2, by rw [d1]; rfl⟩) y1 y2 y3 trivial (A := [(κ.1.length, 1000, qn)]) (fun q hq => by
              rw [List.mem_singleton.mp hq]
              refine ⟨_, rfl, ?_, hS.1⟩
              show some (Value.int (Int32.ofNat n.toNat)) = some (.int (Int32.ofInt n))
              rw [zk_n32 (by omega)]
              congr 3
              omega)
            have hl := zk_le.snoc (V := κ.1) (N := N) (2, an, 0, 0) (H.size : Int)
            refine W.widen (Nat.le_refl _) (show su + n.toNat ≤ su + (zk_hg κ.1 qn).toNat by omega) ?_
            refine kk _ _ _ H1 locs ls _ hA ⟨?_, zk_sv_mono hl hS.2⟩
            refine ⟨(2, an, 0, 0), (H.size : Int), zk_get_last, by rw [zk_all2_len hG.1]; exact zk_get_last, trivial, ?_⟩
            show Value.ref H.size = if (H.size : Int) + 0 < 0 then Value.null else Value.ref ((H.size : Int) + 0).toNat
            rw [if_neg (by omega), Int.add_zero, Int.toNat_natCast]
        · cases hs
      · cases hs
    · cases hs
  · rename_i idx
    split at hs
    · rename_i e he
      split at hs
      · rename_i ds hds
        split at hs
        · rename_i hc
          obtain ⟨rfl, c0, c1, c2, c3, c4⟩ := hc
          cases hs
          intro N P F H locs ls sv hG hS
          obtain ⟨k0, k1, k2, k3, k4⟩ := e
          obtain ⟨e1, e2, e3⟩ := zk_lk_ok hlk he
          dsimp only at e1 e2 hds c4
          subst e1; subst e2
          obtain ⟨C, T0, e4, e5, e6, e7⟩ := e3
          dsimp only at e4 e5 e6
          obtain ⟨ds', d1, d2, d3⟩ := hdv k2 C T0 k3 e4
          cases hds.symm.trans d1
          obtain ⟨-, -, ty0, hty0⟩ := hcl k2 C T0 k3 e4
          have r3 := hR.2.2.1
          have r4 := hR.2.2.2
          refine zw_newo (fs := ds.map zk_dval) hx hb hts hcl hown hK e4 e5 e6 e7 (fun j ty hj hp => ?_) (by omega) (by omega) hdg (fun H1 y1 y2 y3 => ?_)
          · obtain ⟨g1, g2⟩ := d3 j ty hj hp
            rw [zk_dval_ok g2]
            show zk_dval _ = (ds.map zk_dval).getD j .null
            rw [List.getD_eq_getElem?_getD, List.getElem?_map, g1]
            rfl
          · have hA := zk_G.raw hG hbs y1 (ds := ds) (zk_all2_ofall (fun q hq => ?_)) y2 y3
            · have hl := zk_le.snoc (V := κ.1) (N := N) (3, 0, 0, 0) (H.size : Int)
              refine kk _ _ _ H1 locs ls _ hA ⟨?_, zk_sv_mono hl hS⟩
              refine ⟨(3, 0, 0, 0), (H.size : Int), zk_get_last, by rw [zk_all2_len hG.1]; exact zk_get_last, trivial, ?_⟩
              show Value.ref H.size = if (H.size : Int) + 0 < 0 then Value.null else Value.ref ((H.size : Int) + 0).toNat
              rw [if_neg (by omega), Int.add_zero, Int.toNat_natCast]
            · obtain ⟨j, hj⟩ := List.getElem?_of_mem hq
              have hjl : j < k3 := by rw [← d2]; exact (List.getElem?_eq_some_iff.mp hj).1
              obtain ⟨g1, g2⟩ := d3 j _ hjl (hty0 j hjl)
              rw [hj] at g1
              cases g1
              have hk3 : zk_dk (ty0 j) = 0 ∨ zk_dk (ty0 j) = 1 ∨ zk_dk (ty0 j) = 2 := by cases ty0 j <;> simp [zk_dk]
              rcases hk3 with h | h | h <;> rw [h]
              · exact zk_const_ok (k := 0) (n := 0) hG.1 c0 (by decide) (fun _ => by decide) (fun h => by cases h)
              · exact zk_const_ok (k := 1) (n := 0) hG.1 c1 (by decide) (fun _ => by decide) (fun h => by cases h)
              · exact zk_const_ok (k := 2) (n := -1) hG.1 c2 (by decide) (fun h => absurd h (by decide)) (fun _ => rfl)
        · cases hs
      · cases hs
    · cases hs
  · cases hs
end ZK14
end
section
/-! part 15: System.arraycopy of ints -/
theorem zk_all2_cons {α β : Type} {R : α → β → Prop} {a : α} {as : List α} {bs : List β} (h : zk_all2 R (a :: as) bs) : ∃ b bs', bs = b :: bs' ∧ R a b ∧ zk_all2 R as bs' := by
  cases bs with
  | nil => exact h.elim
  | cons b bs' => exact ⟨b, bs', rfl, h.1, h.2⟩
section ZK15
variable {p : Program} {l : Launch} {e : Env} {R : Room} {s : State} {m : MethodId} {args : Array Value} {below : List Frame} {meth : Method} {c : Code} {Q : State → Prop}
variable {cc : ByteArray} {w : zk_W} {u : zk_M} {Ts : List Jvm.Cond} {own : String}
theorem zw_copyi (hx : p.tables.exec = Jvm.exec) (hb : c.code = cc) {pc : Nat} {ls : Array Slot} {rest : List Value} {H : Heap} {locs : List Loc} {cells slots : Nat} (hml : c.maxLocals = ls.size) {index : Nat} (hown : s.vm.findClass own = some m.cls) (hlink : (Jvm.Cond.methodLink own index arraycopyName).before args s = true) (hnat : (Jvm.Cond.native arraycopyName).before args s = true) (hstat : (Jvm.Cond.static arraycopyName).before args s = true) (hini : (Jvm.Cond.initialized "java/lang/System").before args s = true)
    {a0 a : Nat} {c0 c1 : ClassId} {n0 n1 : Nat} {f g : Nat → Int32} (ha0 : H[a0]? = some (vp_cell c0 (n0, .inl f))) (ha1 : H[a]? = some (vp_cell c1 (n1, .inl g))) (ht0 : ArrOfT s c0 .int) (ht1 : ArrOfT s c1 .int)
    {sp dp n : Int32} (h1 : ¬ sp < 0) (h2 : ¬ dp < 0) (h3 : ¬ n < 0) (h4 : sp.toNatClampNeg + n.toNatClampNeg ≤ n0) (h5 : dp.toNatClampNeg + n.toNatClampNeg ≤ n1)
    (hframes : 1 ≤ R.frames) (hlocals : (rest.map fun v => v.category).sum + (nativeFrameWords "java/lang/System" "arraycopy" 5 + 11) ≤ R.locals) (hdg : decode cc pc = .ok (.invokestatic index, 3))
    (kk : ∀ (H1 : Heap) (L : List Loc), H1[a]? = some (vp_cell c1 (n1, .inl (va_cpy f g sp.toNatClampNeg dp.toNatClampNeg n.toNatClampNeg))) → H1.size = H.size → (∀ q, q ≠ a → H1[q]? = H[q]?) → (∀ q ∈ L, q.base = a) → W p l e R s m args below meth c H1 (locs ++ L) cells slots Q (F0 m (pc + 3) ls rest)) : W p l e R s m args below meth c H locs cells slots Q (F0 m pc ls (.int n :: .int dp :: .ref a :: .int sp :: .ref a0 :: rest)) := by
  have nn : ∀ z : Int32, ¬ z < 0 → z.toInt = (z.toNatClampNeg : Int) := by
    intro z hz
    have hz0 : (0 : Int) ≤ z.toInt := by
      have := Int32.not_lt.mp hz
      simpa using Int32.le_iff_toInt_le.mp this
    show z.toInt = ((z.toInt.toNat : Nat) : Int)
    omega
  intro T hT X
  obtain ⟨-, k0, hk0, cm0, hkk0⟩ := ht0 n0 (fun j => .int (f j))
  obtain ⟨-, k1, hk1, cm1, hkk1⟩ := ht1 n1 (fun j => .int (g j))
  obtain ⟨vm', X', step⟩ := X.arraycopy hx hown hlink hnat hstat hini (src := a0) (dst := a) (cs := vp_cell c0 (n0, .inl f)) (cd := vp_cell c1 (n1, .inl g)) (srcPos := sp) (destPos := dp) (n := n) (by rw [hT]; exact ha0) (by rw [hT]; exact ha1)
    (fun _ h => by cases h) (fun _ h => by cases h) (fun h => by cases h) (fun h => by cases h) hk0 hk1 hkk0 hkk1 (by simp [refKind]) h1 h2 h3
    (by rw [nn sp h1, nn n h3]; show ¬ _ > ((arrV c0 n0 (fun j => .int (f j))).slots.size : Int); rw [arrV_size]; omega)
    (by rw [nn dp h2, nn n h3]; show ¬ _ > ((arrV c1 n1 (fun j => .int (g j))).slots.size : Int); rw [arrV_size]; omega)
    (fun vm₁ _ i hi => by
      have e : (vp_cell c0 (n0, .inl f)).slots.getD (sp.toNatClampNeg + i) .null = .int (f (sp.toNatClampNeg + i)) := by
        show (arrV c0 n0 (fun j => .int (f j))).slots.getD _ _ = _
        rw [Array.getD_eq_getD_getElem?, arrV_read _ _ (by omega)]
        rfl
      refine ⟨?_, ?_⟩
      · rw [e]
        rfl
      · rw [e]
        exact trivial)
    (g := F0 m pc ls (.int n :: .int dp :: .ref a :: .int sp :: .ref a0 :: rest)) rfl (by rw [hml]) (rest := rest) rfl (by rw [hb]; exact hdg) hframes (by show 2 * 0 + _ + _ ≤ _; omega)
  have e1 : copied (vp_cell c0 (n0, .inl f)) (vp_cell c1 (n1, .inl g)) sp dp n = vp_cell c1 (n1, .inl (va_cpy f g sp.toNatClampNeg dp.toNatClampNeg n.toNatClampNeg)) := va_copied (fun z => .int z) c0 c1 f g h4
  rw [e1] at X' step
  have hl : a < H.size := (Array.getElem?_eq_some_iff.mp ha1).1
  have hheap : ((T.setVm vm').setCell a (vp_cell c1 (n1, .inl (va_cpy f g sp.toNatClampNeg dp.toNatClampNeg n.toNatClampNeg)))).heap = H.setIfInBounds a (vp_cell c1 (n1, .inl (va_cpy f g sp.toNatClampNeg dp.toNatClampNeg n.toNatClampNeg))) := by rw [← hT]; rfl
  obtain ⟨t, a1, b1⟩ := kk _ _ (show (H.setIfInBounds a _)[a]? = some _ by simp [Array.getElem?_setIfInBounds, hl]) (by simp) (fun q hq => by simp [Array.getElem?_setIfInBounds, Ne.symm hq]) (fun q hq => by
    obtain ⟨z, -, hz⟩ := List.mem_map.mp hq
    rw [← hz]) _ hheap X'
  exact ⟨t, step t a1, b1⟩
theorem zk_nfw : nativeFrameWords "java/lang/System" "arraycopy" 5 = 7 := by decide +kernel
/-- what is copied fits where it comes to -/
def zk_cpT (ts t : Nat) (Ts Td : zk_T) (V : List zk_F) (n sp dp : zk_S) : Bool := (ts == t && decide (sp = dp)) || (match zk_rdT Ts (zk_lw V sp) (zk_hg V sp + zk_hg V n - 1) with
  | some g => g.1 == 0 && zk_wrT [g] (0, 0) Td (zk_lw V dp) (zk_hg V dp + zk_hg V n - 1)
  | none => false)
/-- the place q and n behind it lie within the array x of type T -/
def zk_cin (κ : zk_C) (q n x : zk_S) (T : zk_T) : Bool := decide (zk_hg κ.1 q + zk_hg κ.1 n ≤ (T.2.1 : Int)) || (decide (zk_hg κ.1 q ≤ 0) && ((match zk_fnd κ x.1 1000 with
  | some r => zk_kd κ.1 r == 0 && (decide (zk_hg κ.1 n ≤ zk_lw κ.1 r) || (n.1 == r.1 && decide (n.2 ≤ r.2)))
  | none => false) || zk_cinr κ n x))
def zk_s6 (ty : List zk_T) (lk : List zk_L) (eff : List (Nat × Nat × Nat)) (rm : Nat × Nat × Nat × Nat) (i : ClassFile.Instr) (len pc : Nat) (κ : zk_C) (st : List zk_S) (cu su : Nat) : Option zk_O := match i, st with
  | .invokestatic idx, n :: dp :: xd :: sp :: xs :: st' => match zk_lk lk 8 idx, zk_typ ty κ xs, zk_typ ty κ xd with
    | some _, some (ts, Ts), some (t, Td) => if len = 3 ∧ 1 ≤ rm.1 ∧ zk_cs κ.1 st' + 18 ≤ rm.2.1 ∧ Ts.1 = 1 ∧ Td.1 = 1 ∧ (t ≠ 59 ∧ t ≠ 60) ∧ zk_cpT ts t Ts Td κ.1 n sp dp = true ∧ zk_kd κ.1 n = 0 ∧ zk_kd κ.1 dp = 0 ∧ zk_kd κ.1 sp = 0 ∧ 0 ≤ zk_lw κ.1 n ∧ 0 ≤ zk_lw κ.1 dp ∧ 0 ≤ zk_lw κ.1 sp ∧ Ts.2.2.1 ≤ 2147483647 ∧ Td.2.2.1 ≤ 2147483647 ∧ zk_cin κ sp n xs Ts = true ∧ zk_cin κ dp n xd Td = true ∧ zk_mayb eff κ t 1001 xd.1 = true then some (pc + 3, (κ.1, κ.2.1, κ.2.2.1.filter (zk_keep κ.1 t 2000 1000000000000), κ.2.2.2), st', cu, su) else none
    | _, _, _ => none
  | _, _ => none
theorem zk_cin_ok {κ : zk_C} {N : List Int} {P : Nat → Option Nat} {F : Nat → va_E} {H : Heap} {locs : List Loc} {ls : Array Slot} (hG : zk_G w s u κ N P F H locs ls) {q n x : zk_S} {T : zk_T} (h : zk_cin κ q n x T = true) {vn : Int} {kn : Int} (hn : N[n.1]? = some kn) (en : vn = kn + n.2) (ln : vn ≤ zk_hg κ.1 n) {vq : Int} (lq : vq ≤ zk_hg κ.1 q) {a : Nat} (ha : N[x.1]? = some (a : Int)) {cA : ClassId} {y : vp_A} (hF : F a = .inl (cA, y)) (hp : T.2.1 ≤ y.1) (hq : y.1 ≤ 2147483647) : vq + vn ≤ y.1 := by
  unfold zk_cin at h
  simp only [Bool.or_eq_true, Bool.and_eq_true, decide_eq_true_eq] at h
  rcases h with h | ⟨h0, h | h⟩
  · omega
  rotate_left
  · have := zk_cinr_ok hG h hn ha hF
    omega
  · split at h
    · rename_i r hr
      simp only [Bool.and_eq_true, Bool.or_eq_true, beq_iff_eq, decide_eq_true_eq] at h
      obtain ⟨v', g1, g2⟩ := zk_fnd_ok hG.2.2.1 hr ha
      obtain ⟨j, f1, f2, f3, f4, k', f5, f6⟩ := g2.int hG.1 h.1
      rw [hF] at g1
      have g1 : some (Value.int (Int32.ofNat y.1)) = some v' := g1
      cases g1
      have f1 := Value.int.inj f1
      rw [zk_n32 (by omega), zk_eq32 (by constructor <;> omega) f2] at f1
      rcases h.2 with h2 | h2
      · omega
      · rw [h2.1, f5] at hn
        cases hn
        have := h2.2
        omega
    · cases h
theorem zk_s6_ok (hx : p.tables.exec = Jvm.exec) (hb : c.code = cc) (hml : c.maxLocals = u.2.2.2.2.2.1) (hown : s.vm.findClass own = some m.cls) {ty : List zk_T} (hw : w.1 = ty) {lk : List zk_L} (hlk : ∀ q ∈ lk, zk_lkok w s args own q) {rm : Nat × Nat × Nat × Nat} (hR : rm.1 ≤ R.frames ∧ rm.2.1 ≤ R.locals ∧ rm.2.2.1 ≤ R.cells ∧ rm.2.2.2 ≤ R.slots) {i : ClassFile.Instr} {len pc : Nat} {κ : zk_C} {st : List zk_S} {cu su : Nat} {o : zk_O} (hs : zk_s6 ty lk u.2.2.2.1 rm i len pc κ st cu su = some o) (hdg : decode cc pc = .ok (i, len)) (kk : zk_J p l e R s m args below meth c Q w u o.2.1 o.2.2.1 o.2.2.2.1 o.2.2.2.2 o.1) : zk_J p l e R s m args below meth c Q w u κ st cu su pc := by
  intro N P F H locs ls sv hG hS
  have hV := hG.1
  unfold zk_s6 at hs
  split at hs
  · rename_i idx n dp xd sp xs st'
    split at hs
    · rename_i e ts Ts t Td he hTs hTd
      split at hs
      · rename_i hc
        obtain ⟨rfl, c1, c2, c3, c4, c5, c6, c7, c8, c9, d1, d2, d3, d4, d5, d6, d7, d8⟩ := hc
        cases hs
        obtain ⟨k0, k1, k2, k3, k4⟩ := e
        obtain ⟨e1, e2, e3⟩ := zk_lk_ok hlk he
        dsimp only at e1 e2
        subst e1; subst e2
        obtain ⟨vn, sv1, rfl, hSn, hS1⟩ := zk_all2_cons hS
        obtain ⟨vdp, sv2, rfl, hSd, hS2⟩ := zk_all2_cons hS1
        obtain ⟨vxd, sv3, rfl, hSxd, hS3⟩ := zk_all2_cons hS2
        obtain ⟨vsp, sv4, rfl, hSs, hS4⟩ := zk_all2_cons hS3
        obtain ⟨vxs, sv', rfl, hSxs, hS5⟩ := zk_all2_cons hS4
        · skip
          obtain ⟨a0, rfl, hna0, hp0, hwT0⟩ := zk_typ_ok hw hV hTs hSxs
          obtain ⟨a, rfl, hna, hp, hwT⟩ := zk_typ_ok hw hV hTd hSxd
          obtain ⟨cA0, n0, f, o1, o2, o3, o4, o5, o6, o7⟩ := zk_iarr hG.2.2.2.2.1 hp0 hwT0 (Or.inl c3)
          obtain ⟨cA, n1, g, y1, y2, y3, y4, y5, y6, y7⟩ := zk_iarr hG.2.2.2.2.1 hp hwT (Or.inl c4)
          obtain ⟨zn, rfl, rn, ln, hn, kn, nn, en⟩ := hSn.int hV c7
          obtain ⟨zd, rfl, rd, ld, hd, kd, nd, ed⟩ := hSd.int hV c8
          obtain ⟨zs, rfl, rs, lss, hss, ks, ns, es⟩ := hSs.int hV c9
          have cs1 := zk_cin_ok hG d6 nn en hn hss hna0 o1 o2 (by dsimp only; omega)
          have cs2 := zk_cin_ok hG d7 nn en hn hd hna y1 y2 (by dsimp only; omega)
          dsimp only at cs1 cs2
          have nz : ∀ {z : Int}, zk_rg 0 z → 0 ≤ z → ¬ Int32.ofInt z < 0 ∧ (Int32.ofInt z).toNatClampNeg = z.toNat := by
            intro z hz h0
            refine ⟨?_, ?_⟩
            · rw [← zk_z32, zk_lt32 hz ⟨by decide, by decide⟩]
              omega
            · show (Int32.ofInt z).toInt.toNat = _
              rw [zk_i32 hz]
          have q1 := nz rs (by omega)
          have q2 := nz rd (by omega)
          have q3 := nz rn (by omega)
          rw [c3] at o4
          rw [c4] at y4
          have hls : c.maxLocals = ls.size := by
            obtain ⟨lv, g1, -⟩ := hG.2.2.2.2.2.1
            rw [hml]
            exact g1.1.symm
          have hcs := zk_cs_ok hS5
          have hsame : ∀ g' : Nat → Int32, zk_same (fun j => 2000 ≤ j ∧ j ≤ 1000000000000) (F a) (.inl (cA, n1, .inl g')) := fun g' => by
            rw [y1]
            exact ⟨rfl, rfl, fun j hj h => absurd (show 2000 ≤ 2000 + j ∧ 2000 + j ≤ 1000000000000 from ⟨by omega, by have : j < n1 := hj; omega⟩) h⟩
          have hmay := zk_mayb_ok d8 hG.2.2.2.2.2.2.2.2.2.1 hG.2.2.2.2.2.2.2.2.2.2.1 hna (Int.natCast_nonneg _)
          rw [Int.toNat_natCast] at hmay
          refine zw_copyi hx hb hls hown e3.1 e3.2.1 e3.2.2.1 e3.2.2.2 o6 y6 o4 y4 q1.1 q2.1 q3.1 (by rw [q1.2, q3.2]; omega) (by rw [q2.2, q3.2]; omega) (Nat.le_trans c1 hR.1) (by rw [hcs, zk_nfw]; exact Nat.le_trans c2 hR.2.1) hdg (fun H1 L z1 z2 z3 z4 => ?_)
          refine kk N P _ H1 _ ls sv' (zk_G.write hG hp hwT ?_ (show va_at _ _ (a, .inl (cA, n1, .inl _)) H1 from z1) z2 z3 (L := L) z4 (hsame _) (hmay.imp (fun z => z) (fun z k hk2 => z k hk2)) ⟨fun e => absurd e c5.1, fun e => absurd e c5.2⟩ (fun z hz => by
            obtain ⟨g1, g2⟩ := List.mem_filter.mp hz
            exact zk_fa1_keep hG.1 (hG.2.2.1 z g1) hp (hsame _) g2)) hS5
          unfold zk_el
          rw [c4]
          refine ⟨cA, n1, _, rfl, y2, y3, y4, fun i hi => ?_⟩
          unfold va_cpy
          try dsimp only
          split
          · rename_i hi2
            rw [q2.2, q3.2] at hi2
            obtain ⟨z, f1, f2⟩ := o5 ((Int32.ofInt zs).toNatClampNeg + (i - (Int32.ofInt zd).toNatClampNeg)) (by rw [q1.2, q2.2]; omega)
            rw [f2]
            rw [q1.2, q2.2] at f1 ⊢
            unfold zk_cpT at c6
            rw [Bool.or_eq_true, Bool.and_eq_true, beq_iff_eq, decide_eq_true_eq] at c6
            rcases c6 with ⟨c6, c7'⟩ | c6
            · subst c6
              cases hwT0.symm.trans hwT
              have e9 : zs = zd := by
                rw [c7', nd] at ns
                cases ns
                rw [es, ed, c7']
              rw [e9] at f1 ⊢
              have e10 : zd.toNat + (i - zd.toNat) = i := by omega
              rw [e10] at f1 ⊢
              exact ⟨z, f1, rfl⟩
            · split at c6
              · rename_i g0 hg0
                rw [Bool.and_eq_true, beq_iff_eq] at c6
                obtain ⟨i1, i2⟩ := zk_rdT_ok hg0 (j := zs.toNat + (i - zd.toNat)) (by omega) (by omega) f1
                rw [i1]
                refine zk_fits_ok (V := [g0]) (N := [z]) ⟨i2, trivial⟩ (zk_wrT_ok c6.2 (j := i) (by omega) (by omega)) ⟨g0, z, rfl, rfl, ?_, ?_⟩
                · show zk_rg g0.1 (z + 0)
                  rw [Int.add_zero]
                  exact i2.rg
                · show _ = zk_mk g0.1 (z + 0)
                  rw [Int.add_zero]
              · cases c6
          · exact y5 i hi
      · cases hs
    · cases hs
  · cases hs
end ZK15
end
section
/-! part 16: contracts -/
/-- one way in which a method ends: its answer; inequalities (99 is 0, behind the parameters the answer) -/
abbrev zk_A : Type := Option zk_F × List (Nat × Nat × Int)
/-- a contract: the method, its code, how many locals, what it answers; 0 static, 1 of an object, 2 a constructor; its class's place; its parameters; its ends; what it may write; its room (frames, locals, cells, slots) -/
abbrev zk_K : Type := MethodName × ByteArray × Nat × Option FieldType × Nat × Nat × List zk_F × List zk_A × List (Nat × Nat × Nat) × (Nat × Nat × Nat × Nat)
def zk_Kp (K : zk_K) : List zk_F := K.2.2.2.2.2.2.1
def zk_Ka (K : zk_K) : List zk_A := K.2.2.2.2.2.2.2.1
def zk_Ke (K : zk_K) : List (Nat × Nat × Nat) := K.2.2.2.2.2.2.2.2.1
def zk_Kr (K : zk_K) : Nat × Nat × Nat × Nat := K.2.2.2.2.2.2.2.2.2
def zk_Kk (K : zk_K) : Nat := K.2.2.2.2.1
def zk_Kc (K : zk_K) : Nat := K.2.2.2.2.2.1
def zk_num (ps : List Int) (rn : Int) (j : Nat) : Int := if j = 99 then 0 else if j = ps.length then rn else ps.getD j 0
def zk_avs (fs : List zk_F) (ps : List Int) : List Value := List.zipWith (fun f n => zk_mk f.1 n) fs ps
/-- the object to be made lies there, its fields as at first -/
def zk_th (w : zk_W) (dv : List (List zk_S)) (K : zk_K) (P0 : Nat → Option Nat) (ps : List Int) (U : State) : Prop := ∃ (n : Nat) (f : zk_F) (T : zk_T) (ds : List zk_S), ps[0]? = some (n : Int) ∧ (zk_Kp K)[0]? = some f ∧ w.1[f.2.1]? = some T ∧ T.1 = 0 ∧ dv[T.2.1]? = some ds ∧ n < U.heap.size ∧ w.2.2.2.1 ≤ n ∧ P0 n = none ∧ va_at w.2.2.1 w.2.1 (n, .inr (T.2.1, ds.map zk_dval)) U.heap
/-- what holds of the state besides stays: the classes warmed, the cells below the base the same; a text constant is a String -/
def zk_stab (w : zk_W) : Prop := (∀ s U : State, s.WarmedH U.vm → (∀ q, q < w.2.2.2.1 → U.heap[q]? = s.heap[q]?) → w.2.2.2.2.2 s → w.2.2.2.2.2 U) ∧ (∀ s U : State, U.vm = s.vm → U.heap = s.heap → w.2.2.2.2.2 s → w.2.2.2.2.2 U) ∧ ∀ s : State, w.2.2.2.2.2 s → ∀ t a, w.2.2.2.2.1 t a → ∃ cell : Cell, s.heap[a]? = some cell ∧ cell.vm.isStatics = false ∧ s.vm.findClass "java/lang/String" = some cell.cls
def zk_pre (w : zk_W) (dv : List (List zk_S)) (K : zk_K) (P0 : Nat → Option Nat) (F0 : Nat → va_E) (ps : List Int) (sz : Nat) (U : State) : Prop := U.heap.size = sz ∧ w.2.2.2.1 ≤ sz ∧ zk_wt w U P0 F0 U.heap ∧ va_K w.2.2.1 w.2.1 [] U ∧ (zk_Kk K = 2 → zk_th w dv K P0 ps U) ∧ w.2.2.2.2.2 U ∧ ∀ t a, w.2.2.2.2.1 t a → P0 a = some t
/-- what a method done by hand tells besides: by what stood there, the parameters, what stands there behind it, the answer -/
abbrev zk_B : Type := (Nat → Option Nat) → (Nat → va_E) → List Int → (Nat → Option Nat) → (Nat → va_E) → Int → Prop
abbrev zk_Q : Type := (Nat → Option Nat) → (Nat → va_E) → List Int → Prop
def zk_postX (w : zk_W) (K : zk_K) (B : zk_B) (P0 : Nat → Option Nat) (F0 : Nat → va_E) (ps : List Int) (st t : State) (o : Outcome) : Prop := ∃ al ∈ zk_Ka K, ∃ (rn : Int) (P' : Nat → Option Nat) (F' : Nat → va_E), o = .returned (al.1.map (fun f => zk_mk f.1 rn)) ∧ (∀ f, al.1 = some f → zk_ok P' f rn ∧ f.1 ≤ 2) ∧ (∀ q ∈ al.2, zk_num ps rn q.1 ≤ zk_num ps rn q.2.1 + q.2.2) ∧ zk_wt w t P' F' t.heap ∧ va_K w.2.2.1 w.2.1 [] t ∧ (∀ a y, P0 a = some y → P' a = some y) ∧ zk_ef (zk_Ke K) ps P0 F0 F' ∧
  st.heap.size ≤ t.heap.size ∧ (∀ q, q < st.heap.size → q < w.2.2.2.1 → t.heap[q]? = st.heap[q]?) ∧ (∀ q, q < st.heap.size → P0 q = none → ¬ (zk_Kk K = 2 ∧ ps[0]? = some (q : Int)) → P' q = none ∧ t.heap[q]? = st.heap[q]?) ∧ (zk_Kk K = 2 → ∀ (n : Nat) (f : zk_F), ps[0]? = some (n : Int) → (zk_Kp K)[0]? = some f → P' n = some f.2.1) ∧ B P0 F0 ps P' F' rn
def zk_tB : zk_B := fun _ _ _ _ _ _ => True
def zk_tA : zk_Q := fun _ _ _ => True
def zk_post (w : zk_W) (K : zk_K) (P0 : Nat → Option Nat) (F0 : Nat → va_E) (ps : List Int) (st t : State) (o : Outcome) : Prop := zk_postX w K zk_tB P0 F0 ps st t o
def zk_rm (K : zk_K) : Room := { frames := (zk_Kr K).1, cells := (zk_Kr K).2.2.1, slots := (zk_Kr K).2.2.2, locals := (zk_Kr K).2.1 }
def zk_metX (l : Launch) (w : zk_W) (dv : List (List zk_S)) (TB : List Jvm.Cond) (K : zk_K) (A : zk_Q) (B : zk_B) : Prop := ∀ (P0 : Nat → Option Nat) (F0 : Nat → va_E) (ps : List Int) (sz : Nat), zk_all2 (zk_ok P0) (zk_Kp K) ps → A P0 F0 ps →
  Met l K.1 (Jvm.Cond.code K.1 K.2.1 K.2.2.1 K.2.2.2.1 :: TB) (zk_rm K) (va_Pc (zk_avs (zk_Kp K) ps) (zk_pre w dv K P0 F0 ps sz)) (fun _ st o t => zk_postX w K B P0 F0 ps st t o) (zk_Kr K).2.2.1 (zk_Kr K).2.2.2 (fun q => w.2.2.2.1 ≤ q)
def zk_met (l : Launch) (w : zk_W) (dv : List (List zk_S)) (TB : List Jvm.Cond) (K : zk_K) : Prop := zk_metX l w dv TB K zk_tA zk_tB
theorem zk_th.moved {w : zk_W} {dv : List (List zk_S)} {K : zk_K} {P0 : Nat → Option Nat} {ps : List Int} {u U : State} (hh : U.heap = u.heap) (h : zk_th w dv K P0 ps u) : zk_th w dv K P0 ps U := by
  unfold zk_th at h ⊢
  rw [hh]
  exact h
theorem zk_blind {w : zk_W} (hst : zk_stab w) {dv : List (List zk_S)} {K : zk_K} {P0 : Nat → Option Nat} {F0 : Nat → va_E} {ps : List Int} {sz : Nat} : FrameBlind (va_Pc (zk_avs (zk_Kp K) ps) (zk_pre w dv K P0 F0 ps sz)) := by
  intro a U g mk q
  obtain ⟨q1, q2, q3, q4, q5, q6, q7, q8⟩ := q
  exact ⟨q1, q2, q3, zk_wt.moved (u := U) (U := U.calling g mk a) (Vm.Alike.refl U.vm) q4, va_K.moved (u := U) (U := U.calling g mk a) (Vm.Alike.refl U.vm) q5, fun h => (q6 h).moved rfl, hst.2.1 U _ rfl rfl q7, q8⟩
/-- what a contract's method is, as the tables have it -/
def zk_cok (w : zk_W) (TB : List Jvm.Cond) (K : zk_K) : Prop := plainName K.1.cls = true ∧ K.1.cls ≠ "java/lang/invoke/MethodHandle" ∧ K.1.cls ≠ "java/lang/invoke/VarHandle" ∧ (parseMethodDescriptor K.1.desc).map (fun d => d.parameters.length) = some ((zk_Kp K).length - (if zk_Kk K = 0 then 0 else 1)) ∧ Jvm.Cond.code K.1 K.2.1 K.2.2.1 K.2.2.2.1 ∈ TB ∧ (zk_Kk K ≠ 0 → (zk_Kc K ≠ 999 ∧ ∃ (T : u_T) (N : Nat), w.2.1[zk_Kc K]? = some (K.1.cls, T, N)) ∨ (zk_Kc K = 999 ∧ K.1.cls = "java/lang/String")) ∧ (zk_Kk K = 2 → K.1.name = "<init>" ∧ K.2.2.2.1 = none)
/-- how a place in the pool calls a method: 0 of an object, 1 static, 2 a constructor; 3, 4, 5: the same, private, of a nest mate -/
def zk_lc (s : State) (args : Array Value) (own : String) (how idx : Nat) (y : MethodName) : Prop := match how with
  | 0 => (Jvm.Cond.methodLink own idx y).before args s = true ∧ (Jvm.Cond.initialized y.cls).before args s = true ∧ (Jvm.Cond.instanceMethod y).before args s = true ∧ (Jvm.Cond.selects y.cls y y).before args s = true
  | 1 => (Jvm.Cond.methodLink own idx y).before args s = true ∧ (Jvm.Cond.initialized y.cls).before args s = true ∧ (Jvm.Cond.static y).before args s = true
  | 2 => (Jvm.Cond.methodLink own idx y).before args s = true ∧ (Jvm.Cond.initialized y.cls).before args s = true ∧ (Jvm.Cond.instanceMethod y).before args s = true
  | 3 => (∃ host, va_Nw (.methodLinkNest own idx y host) s) ∧ (Jvm.Cond.initialized y.cls).before args s = true ∧ (Jvm.Cond.instanceMethod y).before args s = true ∧ (Jvm.Cond.selects y.cls y y).before args s = true
  | 4 => (∃ host, va_Nw (.methodLinkNest own idx y host) s) ∧ (Jvm.Cond.initialized y.cls).before args s = true ∧ (Jvm.Cond.static y).before args s = true
  | _ => (∃ host, va_Nw (.methodLinkNest own idx y host) s) ∧ (Jvm.Cond.initialized y.cls).before args s = true ∧ (Jvm.Cond.instanceMethod y).before args s = true
def zk_ins (how idx : Nat) : ClassFile.Instr := match how with
  | 0 => .invokevirtual idx
  | 1 => .invokestatic idx
  | 2 => .invokespecial idx
  | 3 => .invokevirtual idx
  | 4 => .invokestatic idx
  | _ => .invokespecial idx
def zk_hk (how : Nat) : Nat := match how with
  | 0 => 1
  | 1 => 0
  | 2 => 2
  | 3 => 1
  | 4 => 0
  | _ => 2
section ZK16
variable {p : Program} {l : Launch} {e : Env} {R : Room} {s : State} {m : MethodId} {args : Array Value} {below : List Frame} {meth : Method} {c : Code} {Q : State → Prop}
variable {cc : ByteArray} {w : zk_W} {u : zk_M} {Ts : List Jvm.Cond} {own : String}
theorem zk_run (hx : p.tables.exec = Jvm.exec) (hb : c.code = cc) (hst : zk_stab w) {nL pc : Nat} (hml : c.maxLocals = nL) (hown : s.vm.findClass own = some m.cls) (hts : ∀ x ∈ Ts, x.before args s = true) {TB : List Jvm.Cond} {dv : List (List zk_S)} {K : zk_K} {A : zk_Q} {B : zk_B} (hM : zk_metX l w dv TB K A B) (hK : zk_cok w TB K) (hG : GoodIn Ts (Jvm.Cond.code K.1 K.2.1 K.2.2.1 K.2.2.2.1 :: TB)) {how idx : Nat} (hl : zk_lc s args own how idx K.1) (hh : zk_hk how = zk_Kk K)
    {H : Heap} {locs : List Loc} {cu su : Nat} {ls : Array Slot} {P0 : Nat → Option Nat} {F0' : Nat → va_E} {ps : List Int} (hps : zk_all2 (zk_ok P0) (zk_Kp K) ps) (hA : A P0 F0' ps) (hpre : ∀ U : State, U.heap = H → s.WarmedH U.vm → zk_pre w dv K P0 F0' ps H.size U) (hrc : zk_Kk K = 1 → ∃ b : Nat, ps[0]? = some (b : Int) ∧ (∃ f, (zk_Kp K)[0]? = some f ∧ 2 ≤ f.1) ∧ ∃ cell : Cell, H[b]? = some cell ∧ cell.vm.isStatics = false ∧ s.vm.findClass K.1.cls = some cell.cls) (hrc2 : zk_Kk K = 2 → ∃ b : Nat, ps[0]? = some (b : Int) ∧ ∃ f, (zk_Kp K)[0]? = some f ∧ 2 ≤ f.1)
    {rest : List Value} (hsz : ls.size = nL) (hcat : (rest.map fun v => v.category).sum ≤ 8) (hR : (zk_Kr K).1 + 1 ≤ R.frames ∧ 8 + (K.2.2.1 + 11) + (zk_Kr K).2.1 ≤ R.locals) (hf : cu + (zk_Kr K).2.2.1 ≤ R.cells ∧ su + (zk_Kr K).2.2.2 ≤ R.slots) (hdg : decode cc pc = .ok (zk_ins how idx, 3)) :
    va_Run p l e R s m args below meth c H locs cu su (zk_Kr K).2.2.1 (zk_Kr K).2.2.2 (F0 m pc ls ((zk_avs (zk_Kp K) ps).reverse ++ rest)) rest (fun st o t => zk_postX w K B P0 F0' ps st t o) (fun q => w.2.2.2.1 ≤ q) := by
  obtain ⟨h1, h2, h3, h4, h5, h6, h7⟩ := hK
  have S : CallFix p m c cc nL s args Ts own := ⟨hx, hb, hml, hown, hts⟩
  have M := hM P0 F0' ps H.size hps hA
  have hW : 2 * (F0 m pc ls ((zk_avs (zk_Kp K) ps).reverse ++ rest)).monitorRoom + (rest.map fun v => v.category).sum ≤ 8 := by
    show 2 * 0 + _ ≤ 8
    omega
  have hPS : ∀ av, av = zk_avs (zk_Kp K) ps → PreS s H (va_Pc (zk_avs (zk_Kp K) ps) (zk_pre w dv K P0 F0' ps H.size)) av := fun av hav => ⟨zk_blind hst, fun U hU hWm => ⟨by rw [hav], hpre U hU hWm⟩⟩
  have hlen : (zk_avs (zk_Kp K) ps).length = (zk_Kp K).length := by
    unfold zk_avs
    rw [List.length_zipWith, zk_all2_len hps, Nat.min_self]
  have head : ∀ {b : Nat}, ps[0]? = some (b : Int) → (∃ f, (zk_Kp K)[0]? = some f ∧ 2 ≤ f.1) → ∃ As, zk_avs (zk_Kp K) ps = .ref b :: As ∧ As.length = (zk_Kp K).length - 1 := by
    intro b hb0 ⟨f, hf1, hf2⟩
    cases hp : zk_Kp K with
    | nil => rw [hp] at hf1; simp at hf1
    | cons f' r =>
      cases hq : ps with
      | nil => rw [hq] at hb0; simp at hb0
      | cons n' r' =>
        rw [hp] at hf1 hps hlen
        rw [hq] at hb0 hps hlen
        simp at hf1 hb0
        subst hf1; subst hb0
        refine ⟨zk_avs r r', ?_, ?_⟩
        · show zk_mk f'.1 (b : Int) :: _ = _
          rw [zk_mk_ref hf2, if_neg (by omega), Int.toNat_natCast]
          rfl
        · have : (zk_avs (f' :: r) ((b : Int) :: r')).length = (zk_avs r r').length + 1 := rfl
          rw [this] at hlen
          simpa using hlen
  match how, hl, hh, hdg with
  | 0, hl, hh, hdg =>
    have hk : zk_Kk K = 1 := hh.symm
    obtain ⟨b, b1, b2, b3⟩ := hrc hk
    obtain ⟨As, a1, a2⟩ := head b1 b2
    have h4' : (parseMethodDescriptor K.1.desc).map (fun d => d.parameters.length) = some As.length := by rw [h4, hk, a2]; rfl
    have hstk : (F0 m pc ls ((zk_avs (zk_Kp K) ps).reverse ++ rest)).stack = As.reverse ++ .ref b :: rest := by
      show (zk_avs (zk_Kp K) ps).reverse ++ rest = _
      rw [a1, List.reverse_cons, List.append_assoc]
      rfl
    exact va_runV (C := K.1.cls) (b := b) (As := As) S M ⟨callB_of As.length hts hG rfl rfl rfl hl.2.1 hl.1 ⟨h2, h3, h4'⟩ hR, hl.2.2.1, hl.2.2.2⟩ ⟨zk_blind hst, b3, fun U hU hWm => ⟨by rw [a1], hpre U hU hWm⟩⟩ rfl rfl hsz hstk hW hdg hf
  | 1, hl, hh, hdg =>
    have hk : zk_Kk K = 0 := hh.symm
    have h4' : (parseMethodDescriptor K.1.desc).map (fun d => d.parameters.length) = some (zk_avs (zk_Kp K) ps).length := by rw [h4, hk, hlen]; rfl
    exact va_runS (As := zk_avs (zk_Kp K) ps) S M ⟨callB_of (zk_avs (zk_Kp K) ps).length hts hG rfl rfl rfl hl.2.1 hl.1 ⟨h2, h3, h4'⟩ hR, hl.2.2⟩ (hPS _ rfl) rfl rfl hsz rfl hW hdg hf
  | 2, hl, hh, hdg =>
    have hk : zk_Kk K = 2 := hh.symm
    obtain ⟨b, b1, b2⟩ := hrc2 hk
    obtain ⟨As, a1, a2⟩ := head b1 b2
    have h4' : (parseMethodDescriptor K.1.desc).map (fun d => d.parameters.length) = some As.length := by rw [h4, hk, a2]; rfl
    have hstk : (F0 m pc ls ((zk_avs (zk_Kp K) ps).reverse ++ rest)).stack = As.reverse ++ .ref b :: rest := by
      show (zk_avs (zk_Kp K) ps).reverse ++ rest = _
      rw [a1, List.reverse_cons, List.append_assoc]
      rfl
    obtain ⟨g1, g2⟩ := h7 hk
    rw [g2] at M hG h5
    exact va_runI (b := b) (As := As) S M ⟨callB_of As.length hts hG rfl rfl rfl hl.2.1 hl.1 ⟨h2, h3, h4'⟩ hR, g1, hl.2.2⟩ (by rw [← a1]; exact hPS _ rfl) rfl rfl hsz hstk hW hdg hf
  | 3, hl, hh, hdg =>
    have hk : zk_Kk K = 1 := hh.symm
    obtain ⟨b, b1, b2, b3⟩ := hrc hk
    obtain ⟨As, a1, a2⟩ := head b1 b2
    have h4' : (parseMethodDescriptor K.1.desc).map (fun d => d.parameters.length) = some As.length := by rw [h4, hk, a2]; rfl
    have hstk : (F0 m pc ls ((zk_avs (zk_Kp K) ps).reverse ++ rest)).stack = As.reverse ++ .ref b :: rest := by
      show (zk_avs (zk_Kp K) ps).reverse ++ rest = _
      rw [a1, List.reverse_cons, List.append_assoc]
      rfl
    obtain ⟨⟨host, hn⟩, hl2, hl3, hl4⟩ := hl
    exact va_runVN (C := K.1.cls) (b := b) (As := As) S M ⟨va_cnB As.length hts hG rfl rfl rfl hn hl2 ⟨h2, h3, h4'⟩ hR, hl3, hl4⟩ ⟨zk_blind hst, b3, fun U hU hWm => ⟨by rw [a1], hpre U hU hWm⟩⟩ rfl rfl hsz hstk hW hdg hf
  | 4, hl, hh, hdg =>
    have hk : zk_Kk K = 0 := hh.symm
    have h4' : (parseMethodDescriptor K.1.desc).map (fun d => d.parameters.length) = some (zk_avs (zk_Kp K) ps).length := by rw [h4, hk, hlen]; rfl
    obtain ⟨⟨host, hn⟩, hl2, hl3⟩ := hl
    exact va_runSN (As := zk_avs (zk_Kp K) ps) S M ⟨va_cnB (zk_avs (zk_Kp K) ps).length hts hG rfl rfl rfl hn hl2 ⟨h2, h3, h4'⟩ hR, hl3, trivial⟩ (hPS _ rfl) rfl rfl hsz rfl hW hdg hf
  | i + 5, hl, hh, hdg =>
    have hk : zk_Kk K = 2 := hh.symm
    obtain ⟨b, b1, b2⟩ := hrc2 hk
    obtain ⟨As, a1, a2⟩ := head b1 b2
    have h4' : (parseMethodDescriptor K.1.desc).map (fun d => d.parameters.length) = some As.length := by rw [h4, hk, a2]; rfl
    have hstk : (F0 m pc ls ((zk_avs (zk_Kp K) ps).reverse ++ rest)).stack = As.reverse ++ .ref b :: rest := by
      show (zk_avs (zk_Kp K) ps).reverse ++ rest = _
      rw [a1, List.reverse_cons, List.append_assoc]
      rfl
    obtain ⟨g1, g2⟩ := h7 hk
    rw [g2] at M hG h5
    obtain ⟨⟨host, hn⟩, hl2, hl3⟩ := hl
    exact va_runIN (b := b) (As := As) S M ⟨va_cnB As.length hts hG rfl rfl rfl hn hl2 ⟨h2, h3, h4'⟩ hR, g1, hl3⟩ (by rw [← a1]; exact hPS _ rfl) rfl rfl hsz hstk hW hdg hf
end ZK16
end
section
/-! part 17: calls by contract -/
def zk_fita (V : List zk_F) (q : zk_S) (f : zk_F) : Bool := if f.1 = 3 then zk_kd V q == 3 && q.2 == 0 else zk_fits V q f
def zk_argsb (V : List zk_F) : List zk_S → List zk_F → Bool
  | [], [] => true
  | q :: qs, f :: fs => zk_fita V q f && zk_argsb V qs fs
  | _, _ => false
def zk_asr (args : List zk_S) (r : zk_S) (j : Nat) : zk_S := if j = 99 then (0, 0) else if j = args.length then r else args.getD j (0, 0)
def zk_cap (args : List zk_S) (r : zk_S) : List (Nat × Nat × Int) → zk_C → Option zk_C
  | [], κ => some κ
  | c :: cs, κ => if zk_kd κ.1 (zk_asr args r c.1) = zk_kd κ.1 (zk_asr args r c.2.1) ∧ zk_kd κ.1 (zk_asr args r c.1) < 2 then (match zk_asm1 κ (zk_asr args r c.1) (zk_asr args r c.2.1) c.2.2 with
      | some κ' => zk_cap args r cs κ'
      | none => none) else zk_cap args r cs κ
def zk_hidx (i : ClassFile.Instr) : Option (Nat × Nat) := match i with
  | .invokevirtual idx => some (0, idx)
  | .invokestatic idx => some (1, idx)
  | .invokespecial idx => some (2, idx)
  | _ => none
theorem zk_hidx_ok {i : ClassFile.Instr} {how idx : Nat} (h : zk_hidx i = some (how % 3, idx)) (h5 : how < 6) : i = zk_ins how idx := by
  have h6 : how = 0 ∨ how = 1 ∨ how = 2 ∨ how = 3 ∨ how = 4 ∨ how = 5 := by omega
  rcases h6 with rfl | rfl | rfl | rfl | rfl | rfl <;> cases i <;> simp [zk_hidx, zk_ins] at h ⊢ <;> exact h
/-- what stands behind a call: a made object has its type; the facts that the callee leaves -/
def zk_aft (K : zk_K) (av : List zk_S) (κ : zk_C) : zk_C := ((if zk_Kk K = 2 then κ.1.set ((av.getD 0 (0, 0)).1) (2, ((zk_Kp K).getD 0 (0, 0, 0, 0)).2.1, 0, 0) else κ.1), κ.2.1, κ.2.2.1.filter (fun z => (zk_Ke K).all (fun e => zk_keep κ.1 e.1 (zk_er e.2.1).1 (zk_er e.2.1).2 z)), (if zk_Kk K = 2 then κ.2.2.2.1.tail else κ.2.2.2.1), κ.2.2.2.2)
def zk_alt (K : zk_K) (av : List zk_S) (κ : zk_C) (rest : List zk_S) (pc cu su : Nat) (al : zk_A) : List zk_O := match al.1 with
  | some f => (zk_ol (zk_cap av (κ.1.length, 0) al.2 (κ.1 ++ [f], κ.2))).map (fun κ' => (pc, κ', (κ.1.length, 0) :: rest, cu, su))
  | none => (zk_ol (zk_cap av (0, 0) (al.2.filter (fun c => c.1 != av.length && c.2.1 != av.length)) κ)).map (fun κ' => (pc, κ', rest, cu, su))
def zk_th1 (ty : List zk_T) (K : zk_K) : Bool := match (zk_Kp K)[0]? with
  | some f => f.1 == 2 && decide (0 ≤ f.2.2.1) && (match ty[f.2.1]? with
    | some T => T.1 == 0 && T.2.1 == zk_Kc K && decide (zk_Kc K ≠ 999)
    | none => zk_Kc K == 999)
  | none => false
def zk_th2 (ty : List zk_T) (dv : List (List zk_S)) (K : zk_K) (av : List zk_S) (κ : zk_C) : Bool := match (zk_Kp K)[0]?, κ.2.2.2.1, av with
  | some f, z :: _, q :: _ => f.1 == 3 && q.1 == z.1 && q.2 == 0 && (match ty[f.2.1]? with
    | some T => T.1 == 0 && z.2.1 == T.2.1 && (match dv[T.2.1]? with
      | some ds => decide (z.2.2 = ds) && decide (κ.1[0]? = some (0, 0, 0, 0)) && decide (κ.1[1]? = some (1, 0, 0, 0)) && decide (κ.1[2]? = some (2, 0, -1, -1)) && ds.all (fun q => decide (q.1 ≤ 2) && q.2 == 0)
      | none => false)
    | none => false)
  | _, _, _ => false
def zk_thb (ty : List zk_T) (dv : List (List zk_S)) (K : zk_K) (av : List zk_S) (κ : zk_C) : Bool := if zk_Kk K = 0 then true else if zk_Kk K = 1 then zk_th1 ty K else zk_th2 ty dv K av κ
def zk_s7 (ty : List zk_T) (dv : List (List zk_S)) (KS : List zk_K) (km : List Nat) (lc : List (Nat × Nat × Nat)) (eff : List (Nat × Nat × Nat)) (rm : Nat × Nat × Nat × Nat) (an : Nat) (i : ClassFile.Instr) (len pc : Nat) (κ : zk_C) (st : List zk_S) (cu su : Nat) : Option (List zk_O) := match zk_hidx i, KS[an]? with
  | some (h, idx), some K => match lc.find? (fun q => q.1 % 3 == h && q.2.1 == idx) with
    | some q => if len = 3 ∧ q.1 < 6 ∧ km[an]? = some q.2.2 ∧ zk_hk q.1 = zk_Kk K ∧ (zk_Kp K).length ≤ st.length ∧ zk_argsb κ.1 (st.take (zk_Kp K).length).reverse (zk_Kp K) = true ∧ zk_cs κ.1 (st.drop (zk_Kp K).length) ≤ 8 ∧ (zk_Kr K).1 + 1 ≤ rm.1 ∧ 8 + (K.2.2.1 + 11) + (zk_Kr K).2.1 ≤ rm.2.1 ∧ cu + (zk_Kr K).2.2.1 ≤ rm.2.2.1 ∧ su + (zk_Kr K).2.2.2 ≤ rm.2.2.2 ∧ zk_thb ty dv K (st.take (zk_Kp K).length).reverse κ = true ∧ κ.1[0]? = some (0, 0, 0, 0) ∧
        (zk_Ke K).all (fun e => if e.2.2 = 0 then eff.any (fun q => q.1 == e.1 && zk_cov q.2.1 e.2.1 && q.2.2 == 0) else (match ((st.take (zk_Kp K).length).reverse)[e.2.2 - 1]? with
          | some q => q.2 == 0 && zk_mayb eff κ e.1 e.2.1 q.1
          | none => false)) = true then
        some ((zk_Ka K).flatMap (zk_alt K (st.take (zk_Kp K).length).reverse (zk_aft K (st.take (zk_Kp K).length).reverse κ) (st.drop (zk_Kp K).length) (pc + 3) (cu + (zk_Kr K).2.2.1) (su + (zk_Kr K).2.2.2))) else none
    | none => none
  | _, _ => none
section ZK17
variable {p : Program} {l : Launch} {e : Env} {R : Room} {s : State} {m : MethodId} {args : Array Value} {below : List Frame} {meth : Method} {c : Code} {Q : State → Prop}
variable {cc : ByteArray} {w : zk_W} {u : zk_M} {Ts : List Jvm.Cond} {own : String}
theorem zk_fits_n {V : List zk_F} {N : List Int} {P : Nat → Option Nat} (hV : zk_all2 (zk_ok P) V N) {q : zk_S} {f : zk_F} (h : zk_fits V q f = true) {g : zk_F} {n : Int} (hg : V[q.1]? = some g) (hn : N[q.1]? = some n) (hr : zk_rg g.1 (n + q.2)) : zk_ok P f (n + q.2) ∧ f.1 = g.1 ∧ (2 ≤ f.1 → q.2 = 0) := by
  unfold zk_fits at h
  rw [hg] at h
  obtain ⟨n', e1, e2⟩ := zk_all2_get hV hg
  cases hn.symm.trans e1
  obtain ⟨fk, ft, fl, fh⟩ := f
  obtain ⟨gk, gt, gl, gh⟩ := g
  dsimp only at h
  split at h
  · rename_i hk
    simp only [Bool.and_eq_true, beq_iff_eq, decide_eq_true_eq] at h
    obtain ⟨⟨rfl, h5⟩, h6⟩ := h
    have iv := e2.iv hk
    dsimp only at iv
    refine ⟨?_, rfl, fun h => absurd hk (by dsimp only at h; omega)⟩
    match gk, hk, hr with
    | 0, _, h3 => exact ⟨by dsimp only; omega, by dsimp only; omega, h3⟩
    | 1, _, h3 => exact ⟨by dsimp only; omega, by dsimp only; omega, h3⟩
  · simp only [Bool.and_eq_true, beq_iff_eq] at h
    obtain ⟨⟨⟨rfl, rfl⟩, h5⟩, h6⟩ := h
    have e2 : gl ≤ n ∧ -1 ≤ n ∧ (gh < 0 → n < 0) ∧ (0 ≤ n → P n.toNat = some gt) := e2
    rw [h5, Int.add_zero]
    refine ⟨?_, rfl, fun _ => rfl⟩
    split at h6
    · rename_i h7
      have h6 := of_decide_eq_true h6
      have := e2.2.2.1 h7
      exact ⟨by dsimp only; omega, e2.2.1, fun _ => this, fun z => absurd z (by omega)⟩
    · simp only [Bool.and_eq_true, beq_iff_eq, decide_eq_true_eq] at h6
      obtain ⟨⟨h8, h9⟩, h10⟩ := h6
      refine ⟨by dsimp only; omega, e2.2.1, fun z => ?_, fun z => ?_⟩
      · dsimp only at z
        omega
      · dsimp only
        rw [← h8]
        exact e2.2.2.2 z
theorem zk_fita_ok {V : List zk_F} {N : List Int} {P : Nat → Option Nat} (hV : zk_all2 (zk_ok P) V N) {q : zk_S} {f : zk_F} (h : zk_fita V q f = true) {v : Value} (hv : zk_sv V N q v) : ∃ k, N[q.1]? = some k ∧ zk_ok P f (k + q.2) ∧ v = zk_mk f.1 (k + q.2) ∧ (2 ≤ f.1 → q.2 = 0) := by
  obtain ⟨g, n, h1, h2, h3, h4⟩ := hv
  unfold zk_fita at h
  split at h
  · rename_i hf
    simp only [Bool.and_eq_true, beq_iff_eq] at h
    unfold zk_kd at h
    rw [h1] at h
    have hk : g.1 = 3 := h.1
    obtain ⟨n', e1, e2⟩ := zk_all2_get hV h1
    cases h2.symm.trans e1
    rw [h.2, Int.add_zero] at h4
    refine ⟨n, h2, ?_, by rw [h.2, Int.add_zero, h4, hk, hf], fun _ => h.2⟩
    rw [h.2, Int.add_zero]
    obtain ⟨fk, fr⟩ := f
    obtain ⟨gk, gr⟩ := g
    dsimp only at hf hk
    subst hf; subst hk
    exact e2
  · obtain ⟨y1, y2, y3⟩ := zk_fits_n hV h h1 h2 h3
    exact ⟨n, h2, y1, by rw [h4, y2], y3⟩
theorem zk_args_ok {V : List zk_F} {N : List Int} {P : Nat → Option Nat} (hV : zk_all2 (zk_ok P) V N) : ∀ {qs : List zk_S} {fs : List zk_F} {vs : List Value}, zk_argsb V qs fs = true → zk_all2 (zk_sv V N) qs vs → ∃ ps : List Int, zk_all2 (zk_ok P) fs ps ∧ vs = zk_avs fs ps ∧ zk_all2 (fun (q : zk_S) (n : Int) => ∃ k, N[q.1]? = some k ∧ n = k + q.2) qs ps
  | [], [], [], _, _ => ⟨[], trivial, rfl, trivial⟩
  | q :: qs, f :: fs, v :: vs, h, hv => by
    unfold zk_argsb at h
    rw [Bool.and_eq_true] at h
    obtain ⟨k, e1, e2, e3, -⟩ := zk_fita_ok hV h.1 hv.1
    obtain ⟨ps, g1, g2, g3⟩ := zk_args_ok hV h.2 hv.2
    exact ⟨(k + q.2) :: ps, ⟨e2, g1⟩, by rw [e3, g2]; rfl, ⟨k, e1, rfl⟩, g3⟩
  | [], _ :: _, _, h, _ => by simp [zk_argsb] at h
  | _ :: _, [], _, h, _ => by simp [zk_argsb] at h
  | [], [], _ :: _, _, hv => hv.elim
  | _ :: _, _ :: _, [], _, hv => hv.elim
theorem zk_cap_ok {av : List zk_S} {r : zk_S} {ps : List Int} {rn : Int} {N : List Int} {P : Nat → Option Nat} {F : Nat → va_E} {H : Heap} {locs : List Loc} {ls : Array Slot} (hnum : ∀ j, ∃ k, N[(zk_asr av r j).1]? = some k ∧ zk_num ps rn j = k + (zk_asr av r j).2) : ∀ {cs : List (Nat × Nat × Int)} {κ : zk_C}, zk_G w s u κ N P F H locs ls → (∀ q ∈ cs, zk_num ps rn q.1 ≤ zk_num ps rn q.2.1 + q.2.2) → ∃ κ', zk_cap av r cs κ = some κ' ∧ zk_G w s u κ' N P F H locs ls ∧ zk_le κ.1 N κ'.1 N
  | [], κ, hG, _ => ⟨κ, rfl, hG, zk_le.rf⟩
  | c :: cs, κ, hG, hc => by
    unfold zk_cap
    split
    · rename_i hk
      obtain ⟨k1, e1, e2⟩ := hnum c.1
      obtain ⟨k2, e3, e4⟩ := hnum c.2.1
      have := hc c List.mem_cons_self
      obtain ⟨κ1, z1, z2, z3, -⟩ := zk_asm1_ok (d := c.2.2) hG hk.1 hk.2 e1 e3 (by omega)
      rw [z1]
      obtain ⟨κ2, y1, y2, y3⟩ := zk_cap_ok hnum z2 (fun q hq => hc q (List.mem_cons_of_mem _ hq))
      exact ⟨κ2, y1, y2, z3.trans y3⟩
    · exact zk_cap_ok hnum hG (fun q hq => hc q (List.mem_cons_of_mem _ hq))
/-- what is known goes over a call -/
theorem zk_aft_ok {κ : zk_C} {N : List Int} {P P' : Nat → Option Nat} {F F' : Nat → va_E} {H H' : Heap} {locs L : List Loc} {ls : Array Slot} (hG : zk_G w s u κ N P F H locs ls) {K : zk_K} {av : List zk_S} {ps : List Int} (hav : zk_all2 (fun (q : zk_S) (n : Int) => ∃ k, N[q.1]? = some k ∧ n = k + q.2) av ps)
    (hwt : zk_wt w s P' F' H') (hext : ∀ a y, P a = some y → P' a = some y) (hef : zk_ef (zk_Ke K) ps P F F') (hsz : H.size ≤ H'.size) (hb : ∀ q, q < H.size → q < w.2.2.2.1 → H'[q]? = H[q]?) (hun : ∀ q, q < H.size → P q = none → ¬ (zk_Kk K = 2 ∧ ps[0]? = some (q : Int)) → P' q = none ∧ H'[q]? = H[q]?) (hth : zk_Kk K = 2 → ∀ (n : Nat) (f : zk_F), ps[0]? = some (n : Int) → (zk_Kp K)[0]? = some f → P' n = some f.2.1) (hL : ∀ q ∈ L, w.2.2.2.1 ≤ q.base)
    (he : (zk_Ke K).all (fun e => if e.2.2 = 0 then u.2.2.2.1.any (fun q => q.1 == e.1 && zk_cov q.2.1 e.2.1 && q.2.2 == 0) else (match av[e.2.2 - 1]? with
          | some q => q.2 == 0 && zk_mayb u.2.2.2.1 κ e.1 e.2.1 q.1
          | none => false)) = true)
    (hc : zk_Kk K = 2 → ∃ (z : Nat × Nat × List zk_S) (r : List (Nat × Nat × List zk_S)) (q : zk_S) (qs : List zk_S) (f : zk_F), κ.2.2.2.1 = z :: r ∧ av = q :: qs ∧ q.1 = z.1 ∧ q.2 = 0 ∧ (zk_Kp K)[0]? = some f ∧ zk_kd κ.1 q = 3) :
    zk_G w s u (zk_aft K av κ) N P' F' H' (locs ++ L) ls ∧ zk_le κ.1 N (zk_aft K av κ).1 N := by
  obtain ⟨h1, h2, h3, h4, h5, h6, h7, h8, h9, h10, h11, h12, h13⟩ := hG
  have hV' : zk_all2 (zk_ok P') κ.1 N := zk_all2_imp (fun f n q => q.ext hext) h1
  have hfa : zk_fa κ.1 N P' F' (κ.2.2.1.filter (fun z => (zk_Ke K).all (fun e => zk_keep κ.1 e.1 (zk_er e.2.1).1 (zk_er e.2.1).2 z))) := by
    intro z hz
    obtain ⟨z1, z2⟩ := List.mem_filter.mp hz
    obtain ⟨n, t', v, g1, g2, g3, g4, g5⟩ := h3 z z1
    refine ⟨n, t', v, g1, g2, hext _ _ g3, ?_, g5⟩
    rw [(hef n.toNat t' g3).rd ?_]
    · exact g4
    · rintro ⟨e, e1, e2, e3, -⟩
      have e4 := List.all_eq_true.mp z2 e e1
      unfold zk_keep at e4
      unfold zk_pm at e3
      simp only [Bool.or_eq_true, decide_eq_true_eq] at e4
      rcases e4 with e5 | e5
      · omega
      · obtain ⟨f, f1, f2⟩ := zk_all2_getR h1 g1
        rw [f1] at e5
        simp only [Bool.and_eq_true, beq_iff_eq, bne_iff_ne] at e5
        obtain ⟨fk, ft, fl, fh⟩ := f
        obtain ⟨rfl, e6⟩ := e5
        have f2 : _ ∧ _ ∧ _ ∧ (0 ≤ n → P n.toNat = some ft) := f2
        have := f2.2.2.2 g2
        rw [g3] at this
        cases this
        exact e6 e2.symm
  have hef2 : zk_ef u.2.2.2.1 u.2.2.1 u.1 u.2.1 F' := by
    intro a t ha
    have hp := h7 a t ha
    refine (h8 a t ha).trans ((hef a t hp).mono (fun k hk => ?_))
    obtain ⟨e, e1, e2, e3, e4⟩ := hk
    have e5 := List.all_eq_true.mp he e e1
    try dsimp only at e5
    rcases e4 with e4 | e4
    · rw [if_pos e4] at e5
      obtain ⟨q, q1, q2⟩ := List.any_eq_true.mp e5
      simp only [Bool.and_eq_true, beq_iff_eq] at q2
      exact ⟨q, q1, by rw [q2.1.1, e2], zk_cov_ok q2.1.2 e3, Or.inl q2.2⟩
    · by_cases e0 : e.2.2 = 0
      · rw [if_pos e0] at e5
        obtain ⟨q, q1, q2⟩ := List.any_eq_true.mp e5
        simp only [Bool.and_eq_true, beq_iff_eq] at q2
        exact ⟨q, q1, by rw [q2.1.1, e2], zk_cov_ok q2.1.2 e3, Or.inl q2.2⟩
      · rw [if_neg e0] at e5
        obtain ⟨q, q1, k', q2, q3⟩ := zk_all2_getR hav e4
        rw [q1] at e5
        simp only [Bool.and_eq_true, beq_iff_eq] at e5
        rw [e5.1, Int.add_zero] at q3
        rcases zk_mayb_ok e5.2 h10 h11 q2 (by omega) with q4 | q4
        · rw [← q3, Int.toNat_natCast, ha] at q4
          cases q4
        · rw [← q3, Int.toNat_natCast, e2] at q4
          exact q4 k e3
  have hS9 : va_S (fun q => w.2.2.2.1 ≤ q) s.heap H' (locs ++ L) := by
    refine ⟨Nat.le_trans h9.1 hsz, fun q g1 g2 => ?_, fun q hq => ?_⟩
    · rw [hb q (Nat.lt_of_lt_of_le g1 h9.1) (Nat.not_le.mp g2)]
      exact h9.2.1 q g1 g2
    · rcases List.mem_append.mp hq with g | g
      · exact h9.2.2 q g
      · exact hL q g
  unfold zk_aft
  by_cases hk : zk_Kk K = 2
  · obtain ⟨z, r, q, qs, f, c1, c2, c3, c4, c5, c6⟩ := hc hk
    simp only [hk, if_true]
    rw [c1, c2]
    rw [c1] at h4
    obtain ⟨n, fs, r1, r2, r3, r4, r5, r6, r7⟩ := h4
    have hps0 : ps[0]? = some (n : Int) := by
      rw [c2] at hav
      obtain ⟨p0, p1, p2⟩ := zk_all2_get hav (i := 0) (a := q) rfl
      obtain ⟨k', k1, k2⟩ := p2
      rw [c3, r1] at k1
      cases k1
      rw [p1, k2, c4, Int.add_zero]
    have hPn := hth hk n f hps0 c5
    have e0 : ((zk_Kp K).getD 0 (0, 0, 0, 0)) = f := by rw [List.getD_eq_getElem?_getD, c5]; rfl
    have e1 : (q :: qs : List zk_S).getD 0 (0, 0) = q := rfl
    rw [e0, e1]
    obtain ⟨g, gg1, gg2⟩ := zk_all2_getR h1 (show N[q.1]? = some (n : Int) by rw [c3]; exact r1)
    have hg3 : g.1 = 3 := by
      unfold zk_kd at c6
      rw [gg1] at c6
      exact c6
    have hle : zk_le κ.1 N (κ.1.set q.1 (2, f.2.1, 0, 0)) N := zk_le.set gg1 (Or.inr ⟨Nat.le_refl _, by omega⟩)
    have hV2 : zk_all2 (zk_ok P') (κ.1.set q.1 (2, f.2.1, 0, 0)) N := by
      refine zk_all2_setL hV' (fun k hk' => ?_)
      rw [c3, r1] at hk'
      cases hk'
      exact ⟨Int.natCast_nonneg _, by show (-1 : Int) ≤ _; omega, fun h => absurd h (show ¬ (0 : Int) < 0 by decide), fun _ => by rw [Int.toNat_natCast]; exact hPn⟩
    refine ⟨⟨hV2, h2, fun z hz => (hfa z hz).le hle, ?_, hwt, h6.le hle, fun a y ha => hext a y (h7 a y ha), hef2, hS9, h10, h11, h12, fun q' g1 g2 => ?_⟩, hle⟩
    · show zk_rw w _ _ N P' H' r H'.size
      refine (zk_rw.mono (b := n) (by omega) (r7.kept (fun k hk' hpn => hun k (by omega) hpn ?_))).le hle
      rintro ⟨-, h⟩
      rw [hps0] at h
      cases h
      omega
    · obtain ⟨y1, y2⟩ := h13 q' g1 g2
      have hne : ¬ (zk_Kk K = 2 ∧ ps[0]? = some (q' : Int)) := by
        rintro ⟨-, h⟩
        rw [hps0] at h
        have : n = q' := by cases h; omega
        subst this
        exact r3.2 ⟨g1, g2⟩
      obtain ⟨y3, y4⟩ := hun q' (Nat.lt_of_lt_of_le g1 h9.1) y1 hne
      exact ⟨y3, y4.trans y2⟩
  · simp only [hk, if_false]
    refine ⟨⟨hV', h2, hfa, ?_, hwt, h6, fun a y ha => hext a y (h7 a y ha), hef2, hS9, h10, h11, h12, fun q' g1 g2 => ?_⟩, zk_le.rf⟩
    · exact zk_rw.mono hsz (h4.kept (fun k hk' hpn => hun k hk' hpn (fun h => hk h.1)))
    · obtain ⟨y1, y2⟩ := h13 q' g1 g2
      obtain ⟨y3, y4⟩ := hun q' (Nat.lt_of_lt_of_le g1 h9.1) y1 (fun h => hk h.1)
      exact ⟨y3, y4.trans y2⟩
end ZK17
end
section
/-! part 18: the call's step holds -/
def zk_s8 (lk : List zk_L) (i : ClassFile.Instr) (len pc : Nat) (κ : zk_C) (st : List zk_S) (cu su : Nat) : Option zk_O := match i with
  | .ldc idx => match zk_lk lk 9 idx with
    | some q => if len = 2 then some (pc + 2, (κ.1 ++ [(2, q.2.2.1, 0, 0)], κ.2), (κ.1.length, 0) :: st, cu, su) else none
    | none => none
  | _ => none
def zk_s9 (ty : List zk_T) (eff : List (Nat × Nat × Nat)) (i : ClassFile.Instr) (len pc : Nat) (κ : zk_C) (st : List zk_S) (cu su : Nat) : Option zk_O := match i, st with
  | .aastore, qv :: qi :: qa :: st' => match zk_typ ty κ qa with
    | some (t, T) => match ty[(zk_f0 T).2.1]? with
      | some T2 => if len = 1 ∧ T.1 = 3 ∧ T2.1 = 0 ∧ zk_ix κ qi qa T = true ∧ zk_fits κ.1 qv (zk_f0 T) = true ∧ (zk_f0 T).1 = 2 ∧ zk_mayb eff κ t 1001 qa.1 = true ∧ T.2.2.1 ≤ 2147483647 then some (pc + 1, (κ.1, κ.2.1, κ.2.2.1.filter (zk_keep κ.1 t 2000 1000000000000), κ.2.2.2), st', cu, su) else none
      | none => none
    | none => none
  | _, _ => none
def zk_s10 (nL : Nat) (i : ClassFile.Instr) (len pc : Nat) (κ : zk_C) (st : List zk_S) (cu su : Nat) : Option zk_O := match i with
  | .iinc n k => match κ.2.2.2.2.1.find? (fun q => q.1 == n) with
    | some q => if len = 3 ∧ zk_kd κ.1 q.2 = 0 ∧ κ.1[0]? = some (0, 0, 0, 0) ∧ n < nL ∧ zk_m31 ≤ k ∧ k ≤ zk_p31 then some (pc + 3, ((zk_bnR κ.1 0 q.2 (0, k)).1, κ.2.1, κ.2.2.1, κ.2.2.2.1, (n, (zk_bnR κ.1 0 q.2 (0, k)).2) :: κ.2.2.2.2.1.filter (fun r => zk_st1 0 n r.1 (zk_cat κ.1 r.2)), κ.2.2.2.2.2), st, cu, su) else none
    | none => none
  | _ => none
/-- what stands at js and behind it fits at jd and behind it -/
def zk_cpj (Ts Td : zk_T) : Nat → Nat → Nat → Bool
  | 0, _, _ => true
  | n + 1, js, jd => (zk_fj Ts js).1 == 0 && (zk_fj Td jd).1 == 0 && decide ((zk_fj Td jd).2.2.1 ≤ (zk_fj Ts js).2.2.1) && decide ((zk_fj Ts js).2.2.2 ≤ (zk_fj Td jd).2.2.2) && zk_cpj Ts Td n (js + 1) (jd + 1)
/-- note 8: a number of an array goes to another array, to the same place but for a distance -/
def zk_s11 (ty : List zk_T) (eff : List (Nat × Nat × Nat)) (an : Nat) (nx : Option (ClassFile.Instr × Nat)) (i : ClassFile.Instr) (len pc : Nat) (κ : zk_C) (st : List zk_S) (cu su : Nat) : Option zk_O := if an = 8 then (match i, nx, st with
  | .iaload, some (.iastore, 1), qi :: qa :: qj :: qb :: st' => match zk_typ ty κ qa, zk_typ ty κ qb with
    | some (_, Ts), some (t, Td) => if len = 1 ∧ Ts.1 = 1 ∧ Td.1 = 1 ∧ zk_ix κ qi qa Ts = true ∧ zk_ix κ qj qb Td = true ∧ qi.1 = qj.1 ∧ zk_cpj Ts Td ((zk_hg κ.1 qi - zk_lw κ.1 qi).toNat + 1) (zk_lw κ.1 qi).toNat (zk_lw κ.1 qj).toNat = true ∧ zk_mayb eff κ t (zk_ac (zk_hi κ.1 qj Td)) qb.1 = true ∧ zk_spb t (zk_hi κ.1 qj Td) = true then
        some (pc + 2, (κ.1, κ.2.1, κ.2.2.1.filter (zk_keep κ.1 t (2000 + (zk_lw κ.1 qj).toNat) (2000 + (zk_hi κ.1 qj Td).toNat)), κ.2.2.2), st', cu, su) else none
    | _, _ => none
  | _, _, _ => none) else none
section ZK18
variable {p : Program} {l : Launch} {e : Env} {R : Room} {s : State} {m : MethodId} {args : Array Value} {below : List Frame} {meth : Method} {c : Code} {Q : State → Prop}
variable {cc : ByteArray} {w : zk_W} {u : zk_M} {Ts : List Jvm.Cond} {own : String}
theorem zk_hnum {av : List zk_S} {ps : List Int} {N : List Int} (h0 : N[0]? = some 0) (hav : zk_all2 (fun (q : zk_S) (n : Int) => ∃ k, N[q.1]? = some k ∧ n = k + q.2) av ps) {r : zk_S} {rn : Int} (hr : ∃ k, N[r.1]? = some k ∧ rn = k + r.2) (j : Nat) : ∃ k, N[(zk_asr av r j).1]? = some k ∧ zk_num ps rn j = k + (zk_asr av r j).2 := by
  have hlen := zk_all2_len hav
  unfold zk_asr zk_num
  by_cases h9 : j = 99
  · rw [if_pos h9, if_pos h9]
    exact ⟨0, h0, rfl⟩
  · rw [if_neg h9, if_neg h9]
    by_cases hl : j = av.length
    · rw [if_pos hl, if_pos (by omega)]
      exact hr
    · rw [if_neg hl, if_neg (by omega), List.getD_eq_getElem?_getD, List.getD_eq_getElem?_getD]
      cases hq : av[j]? with
      | some q =>
        obtain ⟨n, e1, k, e2, e3⟩ := zk_all2_get hav hq
        rw [e1]
        exact ⟨k, e2, e3⟩
      | none =>
        have : ps[j]? = none := by
          rw [List.getElem?_eq_none_iff] at hq ⊢
          omega
        rw [this]
        exact ⟨0, h0, rfl⟩
theorem zk_dval_fs {V : List zk_F} {N : List Int} {P : Nat → Option Nat} (hV : zk_all2 (zk_ok P) V N) (h0 : V[0]? = some (0, 0, 0, 0)) (h1 : V[1]? = some (1, 0, 0, 0)) (h2 : V[2]? = some (2, 0, -1, -1)) : ∀ {ds : List zk_S} {fs : List Value}, ds.all (fun q => decide (q.1 ≤ 2) && q.2 == 0) = true → zk_all2 (zk_sv V N) ds fs → fs = ds.map zk_dval
  | [], [], _, _ => rfl
  | q :: ds, v :: fs, hd, hv => by
    simp only [List.all_cons, Bool.and_eq_true, decide_eq_true_eq, beq_iff_eq] at hd
    obtain ⟨⟨d1, d2⟩, d3⟩ := hd
    have ih := zk_dval_fs hV h0 h1 h2 (ds := ds) (fs := fs) (by simpa using d3) hv.2
    obtain ⟨f, n, g1, g2, g3, g4⟩ := hv.1
    obtain ⟨qk, qc⟩ := q
    dsimp only at d1 d2 g1 g2 g4
    subst d2
    rw [Int.add_zero] at g4
    obtain ⟨n', e1, e2⟩ := zk_all2_get hV g1
    cases g2.symm.trans e1
    have hq : qk = 0 ∨ qk = 1 ∨ qk = 2 := by omega
    rw [List.map_cons, ih]
    congr 1
    rw [g4]
    rcases hq with rfl | rfl | rfl
    · cases h0.symm.trans g1
      have iv := e2.iv (by decide)
      dsimp only at iv
      have : n = 0 := by omega
      rw [this]
      rfl
    · cases h1.symm.trans g1
      have iv := e2.iv (by decide)
      dsimp only at iv
      have : n = 0 := by omega
      rw [this]
      rfl
    · cases h2.symm.trans g1
      have e2 : (-1 : Int) ≤ n ∧ -1 ≤ n ∧ ((-1 : Int) < 0 → n < 0) ∧ _ := e2
      have := e2.2.2.1 (by decide)
      have : n = -1 := by omega
      rw [this]
      rfl
  | [], _ :: _, _, hv => hv.elim
  | _ :: _, [], _, hv => hv.elim
theorem zk_s7X_ok (hx : p.tables.exec = Jvm.exec) (hb : c.code = cc) (hsb : zk_stab w) (hZ : w.2.2.2.2.2 s) (htx : ∀ t a, w.2.2.2.2.1 t a → u.1 a = some t) (hml : c.maxLocals = u.2.2.2.2.2.1) (hts : ∀ x ∈ Ts, x.before args s = true) (hown : s.vm.findClass own = some m.cls) (hK : va_K w.2.2.1 w.2.1 [] s) {ty : List zk_T} (hw : w.1 = ty) (hbs : w.2.2.2.1 ≤ s.heap.size) {dv : List (List zk_S)} {TB : List Jvm.Cond} (hTB : GoodIn Ts TB) {KS : List zk_K} {an : Nat} {A : zk_Q} {B : zk_B} (hKS : ∀ K : zk_K, KS[an]? = some K → zk_metX l w dv TB K A B ∧ zk_cok w TB K) {km : List Nat} {mn : Nat → MethodName} (hkm : ∀ (j : Nat) (K : zk_K) (k : Nat), KS[j]? = some K → km[j]? = some k → K.1 = mn k) {lc : List (Nat × Nat × Nat)} (hlc : ∀ q ∈ lc, zk_lc s args own q.1 q.2.1 (mn q.2.2)) {rm : Nat × Nat × Nat × Nat} (hR : rm.1 ≤ R.frames ∧ rm.2.1 ≤ R.locals ∧ rm.2.2.1 ≤ R.cells ∧ rm.2.2.2 ≤ R.slots) {i : ClassFile.Instr} {len pc : Nat} {κ : zk_C} {st : List zk_S} {cu su : Nat} {outs : List zk_O} (hs : zk_s7 ty dv KS km lc u.2.2.2.1 rm an i len pc κ st cu su = some outs) (hdg : decode cc pc = .ok (i, len)) {N : List Int} {P : Nat → Option Nat} {F : Nat → va_E} {H : Heap} {locs : List Loc} {ls : Array Slot} {sv : List Value} (hG : zk_G w s u κ N P F H locs ls) (hS : zk_all2 (zk_sv κ.1 N) st sv) (hA : ∀ (K : zk_K) (ps : List Int), KS[an]? = some K → zk_all2 (fun (q : zk_S) (n : Int) => ∃ k, N[q.1]? = some k ∧ n = k + q.2) (st.take (zk_Kp K).length).reverse ps → A P F ps)
    (kk : ∀ o ∈ outs, ∀ (N' : List Int) (P' : Nat → Option Nat) (F' : Nat → va_E) (H' : Heap) (locs' : List Loc) (ls' : Array Slot) (sv' : List Value) (K : zk_K) (ps : List Int) (rn : Int), KS[an]? = some K → zk_all2 (fun (q : zk_S) (n : Int) => ∃ k, N[q.1]? = some k ∧ n = k + q.2) (st.take (zk_Kp K).length).reverse ps → B P F ps P' F' rn → (N' = N ∨ N' = N ++ [rn]) → zk_G w s u o.2.1 N' P' F' H' locs' ls' → zk_all2 (zk_sv o.2.1.1 N') o.2.2.1 sv' → W p l e R s m args below meth c H' locs' o.2.2.2.1 o.2.2.2.2 Q (F0 m o.1 ls' sv')) : W p l e R s m args below meth c H locs cu su Q (F0 m pc ls sv) := by
  have hV := hG.1
  unfold zk_s7 at hs
  split at hs
  · rename_i h idx K hhi hKj
    split at hs
    · rename_i q hq
      split at hs
      · rename_i hc
        obtain ⟨rfl, c1, c2, c3, c4, c5, c6, c7, c8, c9, d1, d2, d3, d4⟩ := hc
        cases hs
        have hqf := List.find?_some hq
        simp only [Bool.and_eq_true, beq_iff_eq] at hqf
        obtain ⟨qh, qi, qm⟩ := q
        dsimp only at c1 c2 c3 hqf
        obtain ⟨rfl, rfl⟩ := hqf
        have hi := zk_hidx_ok hhi c1
        rw [hi] at hdg
        obtain ⟨hM, hC⟩ := hKS K hKj
        have hAK := hA K
        have hkkK := fun o ho N' P' F' H' locs' ls' sv' => kk o ho N' P' F' H' locs' ls' sv' K
        have hlcq := hlc _ (List.mem_of_find?_eq_some hq)
        dsimp only at hlcq
        rw [← hkm an K qm hKj c2] at hlcq
        have hst : zk_all2 (zk_sv κ.1 N) (st.take (zk_Kp K).length ++ st.drop (zk_Kp K).length) sv := by rw [List.take_append_drop]; exact hS
        obtain ⟨b1, b2, rfl, hb1, hb2⟩ := zk_all2_split hst
        generalize hav0 : (st.take (zk_Kp K).length).reverse = av at *
        have hb1r := zk_all2_rev hb1
        rw [hav0] at hb1r
        obtain ⟨ps, p1, p2, p3⟩ := zk_args_ok hV c5 hb1r
        have hb1e : b1 = (zk_avs (zk_Kp K) ps).reverse := by rw [← p2, List.reverse_reverse]
        have hbH : w.2.2.2.1 ≤ H.size := Nat.le_trans hbs hG.2.2.2.2.2.2.2.2.1.1
        have n0 := zk_c0 hV d3
        have hsz : ls.size = u.2.2.2.2.2.1 := by
          obtain ⟨lv, g1, -⟩ := hG.2.2.2.2.2.1
          exact g1.1
        have hgood : GoodIn Ts (Jvm.Cond.code K.1 K.2.1 K.2.2.1 K.2.2.2.1 :: TB) := by
          intro x hx'
          rcases List.mem_cons.mp hx' with rfl | hx'
          · exact hTB _ hC.2.2.2.2.1
          · exact hTB x hx'
        -- a made object's place
        have hctor : zk_Kk K = 2 → ∃ (z : Nat × Nat × List zk_S) (r : List (Nat × Nat × List zk_S)) (q : zk_S) (qs : List zk_S) (f : zk_F) (T : zk_T) (ds : List zk_S), κ.2.2.2.1 = z :: r ∧ av = q :: qs ∧ q.1 = z.1 ∧ q.2 = 0 ∧ (zk_Kp K)[0]? = some f ∧ f.1 = 3 ∧ ty[f.2.1]? = some T ∧ T.1 = 0 ∧ z.2.1 = T.2.1 ∧ dv[T.2.1]? = some ds ∧ z.2.2 = ds ∧ κ.1[0]? = some (0, 0, 0, 0) ∧ κ.1[1]? = some (1, 0, 0, 0) ∧ κ.1[2]? = some (2, 0, -1, -1) ∧ ds.all (fun q => decide (q.1 ≤ 2) && q.2 == 0) = true := by
          intro hk
          unfold zk_thb at d2
          rw [if_neg (by omega), if_neg (by omega)] at d2
          unfold zk_th2 at d2
          split at d2
          · rename_i f z r q qs hf hz
            simp only [Bool.and_eq_true, beq_iff_eq] at d2
            obtain ⟨⟨⟨y1, y2⟩, y3⟩, y4⟩ := d2
            split at y4
            · rename_i T hT
              simp only [Bool.and_eq_true, beq_iff_eq] at y4
              obtain ⟨⟨y5, y6⟩, y7⟩ := y4
              split at y7
              · rename_i ds hds
                simp only [Bool.and_eq_true, decide_eq_true_eq] at y7
                exact ⟨z, r, q, qs, f, T, ds, hz, rfl, y2, y3, hf, y1, hT, y5, y6, hds, y7.1.1.1.1, y7.1.1.1.2, y7.1.1.2, y7.1.2, y7.2⟩
              · cases y7
            · cases y4
          · cases d2
        have hraw : zk_Kk K = 2 → ∃ n : Nat, ps[0]? = some (n : Int) ∧ n < H.size ∧ w.2.2.2.1 ≤ n ∧ P n = none ∧ ∃ (f : zk_F) (T : zk_T) (ds : List zk_S), (zk_Kp K)[0]? = some f ∧ f.1 = 3 ∧ w.1[f.2.1]? = some T ∧ T.1 = 0 ∧ dv[T.2.1]? = some ds ∧ va_at w.2.2.1 w.2.1 (n, .inr (T.2.1, ds.map zk_dval)) H := by
          intro hk
          obtain ⟨z, r, q, qs, f, T, ds, y1, y2, y3, y4, y5, y6, y7, y8, y9, z1, z2, z3, z4, z5, z6⟩ := hctor hk
          have h4 := hG.2.2.2.1
          rw [y1] at h4
          obtain ⟨n, fs, r1, r2, r3, r4, r5, r6, r7⟩ := h4
          have hps0 : ps[0]? = some (n : Int) := by
            rw [y2] at p3
            obtain ⟨p0, e1, k', e2, e3⟩ := zk_all2_get p3 (i := 0) (a := q) rfl
            rw [y3, r1] at e2
            cases e2
            rw [e1, e3, y4, Int.add_zero]
          refine ⟨n, hps0, r2, r3.1, r4, f, T, ds, y5, y6, by rw [hw]; exact y7, y8, z1, ?_⟩
          rw [y9] at r5
          rw [z2] at r6
          rw [← zk_dval_fs hV z3 z4 z5 z6 r6]
          exact r5
        have hpre : ∀ U : State, U.heap = H → s.WarmedH U.vm → zk_pre w dv K P F ps H.size U := by
          intro U hU hWm
          refine ⟨by rw [hU], hbH, by rw [hU]; exact hG.2.2.2.2.1.moved hWm.alike, va_K.moved hWm.alike hK, fun hk => ?_, hsb.1 s U hWm (fun q hq => by rw [hU]; exact hG.2.2.2.2.2.2.2.2.1.2.1 q (Nat.lt_of_lt_of_le hq hbs) (Nat.not_le.mpr hq)) hZ, fun t a h => hG.2.2.2.2.2.2.1 a t (htx t a h)⟩
          obtain ⟨n, y1, y2, y3, y4, f, T, ds, y5, y6, y7, y8, y9, z1⟩ := hraw hk
          exact ⟨n, f, T, ds, y1, y5, y7, y8, y9, by rw [hU]; exact y2, y3, y4, by rw [hU]; exact z1⟩
        have hrc : zk_Kk K = 1 → ∃ b : Nat, ps[0]? = some (b : Int) ∧ (∃ f, (zk_Kp K)[0]? = some f ∧ 2 ≤ f.1) ∧ ∃ cell : Cell, H[b]? = some cell ∧ cell.vm.isStatics = false ∧ s.vm.findClass K.1.cls = some cell.cls := by
          intro hk
          unfold zk_thb at d2
          rw [if_neg (by omega), if_pos hk] at d2
          unfold zk_th1 at d2
          split at d2
          · rename_i f hf
            simp only [Bool.and_eq_true, beq_iff_eq, decide_eq_true_eq] at d2
            obtain ⟨⟨y1, y2⟩, y3⟩ := d2
            split at y3
            · rename_i T hT
              simp only [Bool.and_eq_true, beq_iff_eq, decide_eq_true_eq] at y3
              obtain ⟨n, e1, e2⟩ := zk_all2_get p1 hf
              obtain ⟨fk, ft, fl, fh⟩ := f
              dsimp only at y1 y2 hT
              subst y1
              have e2 : fl ≤ n ∧ -1 ≤ n ∧ (fh < 0 → n < 0) ∧ (0 ≤ n → P n.toNat = some ft) := e2
              have hp := e2.2.2.2 (by omega)
              obtain ⟨fs, o1, o2, o3, o4⟩ := zk_obj hG.2.2.2.2.1 hp (by rw [hw]; exact hT) y3.1.1
              rw [y3.1.2] at o3
              refine ⟨n.toNat, by rw [e1]; congr 1; omega, ⟨_, hf, Nat.le_refl _⟩, ?_⟩
              rcases hC.2.2.2.2.2.1 (by omega) with ⟨-, T0, N0, hcl⟩ | ⟨h9, -⟩
              · exact va_recv hK (zk_P1 o3) hcl (q0 := 0) rfl
              · exact absurd h9 y3.2
            · rename_i hT
              have y3 : zk_Kc K = 999 := by simpa using y3
              obtain ⟨n, e1, e2⟩ := zk_all2_get p1 hf
              obtain ⟨fk, ft, fl, fh⟩ := f
              dsimp only at y1 y2 hT
              subst y1
              have e2 : fl ≤ n ∧ -1 ≤ n ∧ (fh < 0 → n < 0) ∧ (0 ≤ n → P n.toNat = some ft) := e2
              have hp := e2.2.2.2 (by omega)
              obtain ⟨o1, o2, -⟩ := (zk_wt1.none (by rw [hw]; exact hT)).mp (hG.2.2.2.2.1 _ _ hp)
              obtain ⟨cell, g1, g2, g3⟩ := hsb.2.2 s hZ _ _ o2
              refine ⟨n.toNat, by rw [e1]; congr 1; omega, ⟨_, hf, Nat.le_refl _⟩, cell, ?_, g2, ?_⟩
              · rw [hG.2.2.2.2.2.2.2.2.1.2.1 _ (Nat.lt_of_lt_of_le o1 hbs) (Nat.not_le.mpr o1)]
                exact g1
              · rcases hC.2.2.2.2.2.1 (by omega) with ⟨h9, -⟩ | ⟨-, h9⟩
                · exact absurd y3 h9
                · rw [h9]
                  exact g3
          · cases d2
        have hrc2 : zk_Kk K = 2 → ∃ b : Nat, ps[0]? = some (b : Int) ∧ ∃ f, (zk_Kp K)[0]? = some f ∧ 2 ≤ f.1 := by
          intro hk
          obtain ⟨n, y1, y2, y3, y4, f, T, ds, y5, y6, -⟩ := hraw hk
          exact ⟨n, y1, f, y5, by omega⟩
        have hrun := zk_run hx hb hsb (locs := locs) (cu := cu) (su := su) (pc := pc) (ls := ls) (rest := b2) (e := e) (below := below) (meth := meth) hml hown hts hM hC hgood hlcq c3 p1 (hAK ps hKj p3) hpre hrc hrc2 hsz (by rw [zk_cs_ok hb2]; exact c6) (R := R) ⟨by have := hR.1; omega, by have := hR.2.1; omega⟩ ⟨by have := hR.2.2.1; omega, by have := hR.2.2.2; omega⟩ hdg
        rw [hb1e]
        intro T hT X
        obtain ⟨v, st₀, t, T', L, h0, X', hL, e1, e2, hpost, st'⟩ := hrun T hT X
        obtain ⟨al, al1, rn, P', F', f1, f2, f3, f4, f5, f6, f7, f8, f9, g1, g2, hBB⟩ := hpost
        rw [h0] at f8 f9 g1
        have hvm : t.vm.Alike s.vm := by
          have := X'.warmed.alike
          rw [e2] at this
          exact this.symm
        rw [← e1] at f4 f8 f9 g1
        have hwt' : zk_wt w s P' F' T'.heap := f4.moved hvm
        obtain ⟨A1, A2⟩ := zk_aft_ok (K := K) (av := av) hG p3 hwt' f6 f7 f8 f9 g1 g2 hL d4 (fun hk => by
          obtain ⟨z, r, q, qs, f, T, ds, y1, y2, y3, y4, y5, y6, y7, y8, y9, z1, z2, -⟩ := hctor hk
          refine ⟨z, r, q, qs, f, y1, y2, y3, y4, y5, ?_⟩
          rw [y2] at c5
          cases hp : zk_Kp K with
          | nil => rw [hp] at y5; simp at y5
          | cons f' fr =>
            rw [hp] at c5 y5
            simp at y5
            subst y5
            unfold zk_argsb at c5
            rw [Bool.and_eq_true] at c5
            have := c5.1
            unfold zk_fita at this
            rw [if_pos y6] at this
            simp only [Bool.and_eq_true, beq_iff_eq] at this
            exact this.1)
        have hS2 := zk_sv_mono A2 hb2
        cases hal : al.1 with
        | some f =>
          obtain ⟨k1, k2⟩ := f2 f hal
          have A3 := zk_G.push A1 k1
          have hl3 := zk_le.snoc (V := (zk_aft K av κ).1) (N := N) f rn
          have hlen := zk_all2_len A1.1
          obtain ⟨κ', m1, m2, m3⟩ := zk_cap_ok (av := av) (r := ((zk_aft K av κ).1.length, 0)) (ps := ps) (rn := rn) (zk_hnum (hl3.1 _ _ n0) (zk_all2_imp (fun q n ⟨k, z1, z2⟩ => ⟨k, hl3.1 _ _ z1, z2⟩) p3) ⟨rn, by rw [hlen]; exact zk_get_last, by simp⟩) A3 f3
          rw [hal] at f1
          have f1 : v = some (zk_mk f.1 rn) := by cases f1; rfl
          subst f1
          have hsv := zk_sv_last A1.1 k1
          have ho : (pc + 3, κ', ((zk_aft K av κ).1.length, (0 : Int)) :: st.drop (zk_Kp K).length, cu + (zk_Kr K).2.2.1, su + (zk_Kr K).2.2.2) ∈ (zk_Ka K).flatMap (zk_alt K av (zk_aft K av κ) (st.drop (zk_Kp K).length) (pc + 3) (cu + (zk_Kr K).2.2.1) (su + (zk_Kr K).2.2.2)) := by
            refine List.mem_flatMap.mpr ⟨al, al1, ?_⟩
            unfold zk_alt
            rw [hal]
            dsimp only
            rw [m1]
            exact List.mem_singleton.mpr rfl
          obtain ⟨t2, a1, b1'⟩ := hkkK _ ho _ P' F' T'.heap _ ls (zk_mk f.1 rn :: b2) ps rn hKj p3 hBB (Or.inr rfl) m2 ⟨m3.2 _ _ hsv, zk_sv_mono m3 (zk_sv_mono hl3 hS2)⟩ T' rfl X'
          exact ⟨t2, st' t2 a1, b1'⟩
        | none =>
          rw [hal] at f1
          have f1 : v = none := by cases f1; rfl
          subst f1
          have hf3 : ∀ q ∈ al.2.filter (fun c => c.1 != av.length && c.2.1 != av.length), zk_num ps 0 q.1 ≤ zk_num ps 0 q.2.1 + q.2.2 := by
            intro q hq
            obtain ⟨y1, y2⟩ := List.mem_filter.mp hq
            simp only [Bool.and_eq_true, bne_iff_ne] at y2
            have hlen := zk_all2_len p3
            have := f3 q y1
            have e3 : ∀ j, j ≠ av.length → zk_num ps 0 j = zk_num ps rn j := fun j hj => by
              unfold zk_num
              split
              · rfl
              · rw [if_neg (by omega), if_neg (by omega)]
            rw [e3 _ y2.1, e3 _ y2.2]
            exact this
          obtain ⟨κ', m1, m2, m3⟩ := zk_cap_ok (av := av) (r := (0, 0)) (ps := ps) (rn := 0) (zk_hnum n0 p3 ⟨0, n0, rfl⟩) A1 hf3
          have ho : (pc + 3, κ', st.drop (zk_Kp K).length, cu + (zk_Kr K).2.2.1, su + (zk_Kr K).2.2.2) ∈ (zk_Ka K).flatMap (zk_alt K av (zk_aft K av κ) (st.drop (zk_Kp K).length) (pc + 3) (cu + (zk_Kr K).2.2.1) (su + (zk_Kr K).2.2.2)) := by
            refine List.mem_flatMap.mpr ⟨al, al1, ?_⟩
            unfold zk_alt
            rw [hal]
            dsimp only
            rw [m1]
            exact List.mem_singleton.mpr rfl
          obtain ⟨t2, a1, b1'⟩ := hkkK _ ho _ P' F' T'.heap _ ls b2 ps rn hKj p3 hBB (Or.inl rfl) m2 (zk_sv_mono m3 hS2) T' rfl X'
          exact ⟨t2, st' t2 a1, b1'⟩
      · cases hs
    · cases hs
  · cases hs
theorem zk_s7_ok (hx : p.tables.exec = Jvm.exec) (hb : c.code = cc) (hsb : zk_stab w) (hZ : w.2.2.2.2.2 s) (htx : ∀ t a, w.2.2.2.2.1 t a → u.1 a = some t) (hml : c.maxLocals = u.2.2.2.2.2.1) (hts : ∀ x ∈ Ts, x.before args s = true) (hown : s.vm.findClass own = some m.cls) (hK : va_K w.2.2.1 w.2.1 [] s) {ty : List zk_T} (hw : w.1 = ty) (hbs : w.2.2.2.1 ≤ s.heap.size) {dv : List (List zk_S)} {TB : List Jvm.Cond} (hTB : GoodIn Ts TB) {KS : List zk_K} (hKS : ∀ (j : Nat) (K : zk_K), KS[j]? = some K → zk_met l w dv TB K ∧ zk_cok w TB K) {km : List Nat} {mn : Nat → MethodName} (hkm : ∀ (j : Nat) (K : zk_K) (k : Nat), KS[j]? = some K → km[j]? = some k → K.1 = mn k) {lc : List (Nat × Nat × Nat)} (hlc : ∀ q ∈ lc, zk_lc s args own q.1 q.2.1 (mn q.2.2)) {rm : Nat × Nat × Nat × Nat} (hR : rm.1 ≤ R.frames ∧ rm.2.1 ≤ R.locals ∧ rm.2.2.1 ≤ R.cells ∧ rm.2.2.2 ≤ R.slots) {an : Nat} {i : ClassFile.Instr} {len pc : Nat} {κ : zk_C} {st : List zk_S} {cu su : Nat} {outs : List zk_O} (hs : zk_s7 ty dv KS km lc u.2.2.2.1 rm an i len pc κ st cu su = some outs) (hdg : decode cc pc = .ok (i, len)) (kk : ∀ o ∈ outs, zk_J p l e R s m args below meth c Q w u o.2.1 o.2.2.1 o.2.2.2.1 o.2.2.2.2 o.1) : zk_J p l e R s m args below meth c Q w u κ st cu su pc := fun N P F H locs ls sv hG hS => zk_s7X_ok hx hb hsb hZ htx hml hts hown hK hw hbs hTB (A := zk_tA) (B := zk_tB) (fun K h => hKS an K h) hkm hlc hR hs hdg hG hS (fun _ _ _ _ => trivial) (fun o ho N' P' F' H' locs' ls' sv' _ _ _ _ _ _ _ hG' hS' => kk o ho N' P' F' H' locs' ls' sv' hG' hS')
/-- a text constant -/
theorem zk_s8_ok (hx : p.tables.exec = Jvm.exec) (hb : c.code = cc) (hown : s.vm.findClass own = some m.cls) (htx : ∀ t a, w.2.2.2.2.1 t a → u.1 a = some t) {lk : List zk_L} (hlk : ∀ q ∈ lk, zk_lkok w s args own q) {i : ClassFile.Instr} {len pc : Nat} {κ : zk_C} {st : List zk_S} {cu su : Nat} {o : zk_O} (hs : zk_s8 lk i len pc κ st cu su = some o) (hdg : decode cc pc = .ok (i, len)) (kk : zk_J p l e R s m args below meth c Q w u o.2.1 o.2.2.1 o.2.2.2.1 o.2.2.2.2 o.1) : zk_J p l e R s m args below meth c Q w u κ st cu su pc := by
  intro N P F H locs ls sv hG hS
  have hV := hG.1
  unfold zk_s8 at hs
  split at hs
  · rename_i idx
    split at hs
    · rename_i q hq
      split at hs
      · rename_i hc
        subst hc
        cases hs
        obtain ⟨k, j, a, b, v⟩ := q
        obtain ⟨e1, e2, e3⟩ := zk_lk_ok hlk hq
        dsimp only at e1 e2
        subst e1; subst e2
        obtain ⟨tx, ad, z1, z2⟩ := e3
        have f1 : zk_ok P (2, a, 0, 0) (ad : Int) := ⟨by dsimp only; omega, by omega, fun h => absurd h (by dsimp only; omega), fun _ => by rw [Int.toNat_natCast]; exact hG.2.2.2.2.2.2.1 _ _ (htx _ _ z1)⟩
        have e4 : zk_mk 2 (ad : Int) = .ref ad := by
          rw [zk_mk_ref (Nat.le_refl _), if_neg (by omega), Int.toNat_natCast]
        refine va_ldcS hx hb hown z2 hdg ?_
        rw [← e4]
        exact kk _ P F H locs ls _ (hG.push f1) ⟨zk_sv_last hV f1, zk_sv_mono (zk_le.snoc _ _) hS⟩
      · cases hs
    · cases hs
  · cases hs
/-- null is stored in an array of references -/
theorem zw_aastn (hx : p.tables.exec = Jvm.exec) (hb : c.code = cc) {H : Heap} {locs : List Loc} {cu su pc : Nat} {ls : Array Slot} {rest : List Value} {a n : Nat} {cA : ClassId} {C : String} {f : Nat → Option Nat} (hat : H[a]? = some (vp_cell cA (n, .inr (.inr (.inr (.inr f)))))) (hA : ArrOfT s cA (.object C)) {i : Int32} (hin : vp_in i n) (hdg : decode cc pc = .ok (.aastore, 1))
    (kk : ∀ (H1 : Heap) (j : Nat), H1[a]? = some (vp_cell cA (n, .inr (.inr (.inr (.inr (zk_up f i.toNatClampNeg none)))))) → H1.size = H.size → (∀ q, q ≠ a → H1[q]? = H[q]?) → W p l e R s m args below meth c H1 (locs ++ [⟨a, j⟩]) cu su Q (F0 m (pc + 1) ls rest)) : W p l e R s m args below meth c H locs cu su Q (F0 m pc ls (.null :: .int i :: .ref a :: rest)) := by
  refine va_WaastN (C := C) hx hb hat (hA n (fun j => va_rf (f j))) (fun h => by cases h) (by show ¬ (i < 0 ∨ (arrV _ _ _).slots.size ≤ _); rw [arrV_size]; exact hin) rfl rfl hdg fun H1 e1 z oq => kk H1 _ ?_ z oq
  rw [e1, vp_cell_q, vp_cell_q]
  have : Value.null = va_rf none := rfl
  rw [this, arrV_store]
  congr 2
  funext q
  by_cases hq : q = i.toNatClampNeg
  · subst hq
    simp [updV, zk_up]
  · simp [updV, zk_up, hq]
theorem zk_s9_ok (hx : p.tables.exec = Jvm.exec) (hb : c.code = cc) (hK : va_K w.2.2.1 w.2.1 [] s) {ty : List zk_T} (hw : w.1 = ty) {i : ClassFile.Instr} {len pc : Nat} {κ : zk_C} {st : List zk_S} {cu su : Nat} {o : zk_O} (hs : zk_s9 ty u.2.2.2.1 i len pc κ st cu su = some o) (hdg : decode cc pc = .ok (i, len)) (kk : zk_J p l e R s m args below meth c Q w u o.2.1 o.2.2.1 o.2.2.2.1 o.2.2.2.2 o.1) : zk_J p l e R s m args below meth c Q w u κ st cu su pc := by
  unfold zk_s9 at hs
  split at hs
  · rename_i qv qi qa st'
    split at hs
    · rename_i t T hT
      split at hs
      · rename_i T2 hT2
        split at hs
        · rename_i hc
          obtain ⟨rfl, c1, c2, c3, c4, c5, c6, c7⟩ := hc
          cases hs
          intro N P F H locs ls sv hG hS
          match sv, hS with
          | vv :: vi :: va :: sv', hS =>
            obtain ⟨a, rfl, hna, hp, hwT⟩ := zk_typ_ok hw hG.1 hT hS.2.2.1
            obtain ⟨cA, n, f, o1, o2, o3, o4, o4', o5, o6, o7⟩ := zk_qarr hG.2.2.2.2.1 hp hwT c1
            obtain ⟨j, rfl, j1, j2, j3, j4, j5, j6, j7⟩ := zk_ix_ok hG c3 hS.2.1 hna o1 o2 o3
            dsimp only at j3 j6
            obtain ⟨x, x1, rfl⟩ := zk_fits_ok hG.1 c4 hS.1
            have hfj : ∀ i, zk_fj T i = zk_f0 T := fun i => by
              unfold zk_fj
              rw [if_neg (by omega)]
            have hsame : ∀ g : Nat → Option Nat, zk_same (fun j => 2000 ≤ j ∧ j ≤ 1000000000000) (F a) (.inl (cA, n, .inr (.inr (.inr (.inr g))))) := fun g => by
              rw [o1]
              exact ⟨rfl, rfl, fun j hj h => absurd (show 2000 ≤ 2000 + j ∧ 2000 + j ≤ 1000000000000 from ⟨by omega, by have : j < n := hj; omega⟩) h⟩
            have hmay := zk_mayb_ok c6 hG.2.2.2.2.2.2.2.2.2.1 hG.2.2.2.2.2.2.2.2.2.2.1 hna (Int.natCast_nonneg _)
            rw [Int.toNat_natCast] at hmay
            have hx0 : zk_mk (zk_f0 T).1 x = va_rf (if x < 0 then none else some x.toNat) := by
              rw [zk_mk_ref (by omega)]
              split <;> rfl
            have fin : ∀ (H1 : Heap) (jj : Nat), H1[a]? = some (vp_cell cA (n, .inr (.inr (.inr (.inr (zk_up f j.toNat (if x < 0 then none else some x.toNat))))))) → H1.size = H.size → (∀ q, q ≠ a → H1[q]? = H[q]?) → W p l e R s m args below meth c H1 (locs ++ [⟨a, jj⟩]) cu su Q (F0 m (pc + 1) ls sv') := by
              intro H1 jj e1 hz hk
              refine kk N P _ H1 _ ls sv' (zk_G.write hG hp hwT ?_ (show va_at _ _ (a, .inl (cA, n, .inr (.inr (.inr (.inr _))))) H1 from e1) hz hk (L := [⟨a, jj⟩]) (fun q hq => by rw [List.mem_singleton.mp hq]) (hsame _) (hmay.imp (fun z => z) (fun z k hk2 => z k hk2)) trivial (fun z hz => by
                obtain ⟨g1, g2⟩ := List.mem_filter.mp hz
                exact zk_fa1_keep hG.1 (hG.2.2.1 z g1) hp (hsame _) g2)) hS.2.2.2
              unfold zk_el
              rw [c1]
              refine ⟨cA, n, _, rfl, o2, o3, o4, o4', fun i hi => ?_⟩
              by_cases hij : i = j.toNat
              · rw [hij, zk_up_self, hfj]
                exact ⟨x, x1, hx0.symm⟩
              · rw [zk_up_ne hij]
                exact o5 i hi
            rw [hx0]
            by_cases hneg : x < 0
            · rw [if_pos hneg] at fin ⊢
              exact zw_aastn hx hb o6 o4 j6 hdg (fun H1 jj e1 hz hk => fin H1 jj (by rw [← j7]; exact e1) hz hk)
            · rw [if_neg hneg] at fin ⊢
              have x2 : P x.toNat = some (zk_f0 T).2.1 := by
                generalize hf0 : zk_f0 T = f0 at x1 c5
                obtain ⟨fk, fr⟩ := f0
                dsimp only at c5
                subst c5
                exact x1.2.2.2 (by omega)
              have hT2w : w.1[(zk_f0 T).2.1]? = some T2 := by rw [hw]; exact hT2
              obtain ⟨fs, b1, b2, b3, b4⟩ := zk_obj hG.2.2.2.2.1 x2 hT2w c2
              obtain ⟨r, hr, b5⟩ := b3
              have hrn : zk_rn w T = r.1 := by
                unfold zk_rn
                rw [hT2w]
                dsimp only
                rw [List.getD_eq_getElem?_getD, hr]
                rfl
              rw [hrn] at o4 o4'
              exact zw_aast hx hb hK hr o6 o4 o4' j6 (o := some x.toNat) (fun v hv => by cases hv; exact ⟨fs, r, hr, b5⟩) hdg (fun H1 jj e1 hz hk => fin H1 jj (by rw [← j7]; exact e1) hz hk)
        · cases hs
      · cases hs
    · cases hs
  · cases hs
theorem zk_s10_ok (hx : p.tables.exec = Jvm.exec) (hb : c.code = cc) {i : ClassFile.Instr} {len pc : Nat} {κ : zk_C} {st : List zk_S} {cu su : Nat} {o : zk_O} (hs : zk_s10 u.2.2.2.2.2.1 i len pc κ st cu su = some o) (hdg : decode cc pc = .ok (i, len)) (kk : zk_J p l e R s m args below meth c Q w u o.2.1 o.2.2.1 o.2.2.2.1 o.2.2.2.2 o.1) : zk_J p l e R s m args below meth c Q w u κ st cu su pc := by
  unfold zk_s10 at hs
  split at hs
  · rename_i n k
    split at hs
    · rename_i q hq
      split at hs
      · rename_i hc
        obtain ⟨rfl, c1, c2, c3, c4, c5⟩ := hc
        cases hs
        intro N P F H locs ls sv hG hS
        obtain ⟨g1, g2, g3, g4, g5, ⟨lv, g6, g7⟩, g8⟩ := hG
        have hG : zk_G w s u κ N P F H locs ls := ⟨g1, g2, g3, g4, g5, ⟨lv, g6, g7⟩, g8⟩
        have hm := List.mem_of_find?_eq_some hq
        have hn : q.1 = n := by simpa using List.find?_some hq
        obtain ⟨j, hj⟩ := List.getElem?_of_mem hm
        obtain ⟨r, e1, e2, e3⟩ := zk_all2_get g7 hj
        have n0 := zk_c0 g1 c2
        have hy : zk_sv κ.1 N (0, k) (.int (Int32.ofInt k)) := ⟨(0, 0, 0, 0), 0, c2, n0, by rw [Int.zero_add]; exact ⟨c4, c5⟩, by rw [Int.zero_add]; rfl⟩
        have ky : zk_kd κ.1 ((0, k) : zk_S) = 0 := by unfold zk_kd; rw [c2]
        obtain ⟨a, b, ea, eb, rb, lb, hb', N', n1, n2, n3⟩ := zk_bnR_ok (o := 0) g1 c2 e3 hy c1 ky
        have hr : r = (n, Value.int (Int32.ofInt a)) := by rw [← hn, e2, ← ea]
        rw [hr] at e1
        refine lv_iinc hx hb hdg g6 e1 rfl c3 rfl (fun ls' hl => ?_)
        have hG2 := hG.le n2 n1
        obtain ⟨y1, y2, y3, y4, y5, -, y8⟩ := hG2
        refine kk N' P F H locs ls' sv ⟨y1, y2, y3, y4, y5, ⟨_, hl, ⟨rfl, ?_⟩, zk_all2_imp (fun a b z => ⟨z.1, n2.2 _ _ z.2⟩) (zk_all2_filter (fun a b hab => ?_) g7)⟩, y8⟩ (zk_sv_mono n2 hS)
        · dsimp only
          have eb := Value.int.inj eb
          rw [eb]
          exact n3
        · obtain ⟨h1, h2⟩ := hab
          rw [h1]
          unfold zk_cat
          rw [← h2.cat]
          rfl
      · cases hs
    · cases hs
  · cases hs
theorem zk_cpj_ok {Ts Td : zk_T} {P : Nat → Option Nat} : ∀ {n js jd : Nat}, zk_cpj Ts Td n js jd = true → ∀ i, i < n → ∀ z, zk_ok P (zk_fj Ts (js + i)) z → (zk_fj Ts (js + i)).1 = 0 ∧ (zk_fj Td (jd + i)).1 = 0 ∧ zk_ok P (zk_fj Td (jd + i)) z
  | 0, _, _, _, i, hi, _, _ => absurd hi (Nat.not_lt_zero _)
  | n + 1, js, jd, h, i, hi, z, hz => by
    unfold zk_cpj at h
    simp only [Bool.and_eq_true, beq_iff_eq, decide_eq_true_eq] at h
    obtain ⟨⟨⟨⟨h1, h2⟩, h3⟩, h4⟩, h5⟩ := h
    cases i with
    | zero =>
      rw [Nat.add_zero] at hz ⊢
      rw [Nat.add_zero]
      refine ⟨h1, h2, ?_⟩
      have iv := hz.iv (by omega)
      have rg := hz.rg
      rw [h1] at rg
      generalize zk_fj Td jd = g at h2 h3 h4 ⊢
      obtain ⟨gk, gt, gl, gh⟩ := g
      dsimp only at h2 h3 h4
      subst h2
      exact ⟨by dsimp only; omega, by dsimp only; omega, rg⟩
    | succ i =>
      rw [show js + (i + 1) = js + 1 + i by omega] at hz ⊢
      rw [show jd + (i + 1) = jd + 1 + i by omega]
      exact zk_cpj_ok h5 i (by omega) z hz
theorem zk_s11_ok (hx : p.tables.exec = Jvm.exec) (hb : c.code = cc) {ty : List zk_T} (hw : w.1 = ty) {an : Nat} {nx : Option (ClassFile.Instr × Nat)} {i : ClassFile.Instr} {len pc : Nat} {κ : zk_C} {st : List zk_S} {cu su : Nat} {o : zk_O} (hs : zk_s11 ty u.2.2.2.1 an nx i len pc κ st cu su = some o) (hdg : decode cc pc = .ok (i, len)) (hnx : ∀ z, nx = some z → (i = .lcmp ∨ i = .iaload) → decode cc (pc + 1) = .ok z) (kk : zk_J p l e R s m args below meth c Q w u o.2.1 o.2.2.1 o.2.2.2.1 o.2.2.2.2 o.1) : zk_J p l e R s m args below meth c Q w u κ st cu su pc := by
  unfold zk_s11 at hs
  split at hs
  rotate_left
  · cases hs
  split at hs
  · rename_i qi qa qj qb st'
    split at hs
    · rename_i t0 Ts t Td hTs hTd
      split at hs
      · rename_i hc
        obtain ⟨rfl, c1, c2, c3, c4, c5, c6, c7, c8⟩ := hc
        cases hs
        have hd2 := hnx _ rfl (Or.inr rfl)
        intro N P F H locs ls sv hG hS
        obtain ⟨vi, sv1, rfl, hSi, hS1⟩ := zk_all2_cons hS
        obtain ⟨va, sv2, rfl, hSa, hS2⟩ := zk_all2_cons hS1
        obtain ⟨vj, sv3, rfl, hSj, hS3⟩ := zk_all2_cons hS2
        obtain ⟨vb, sv4, rfl, hSb, hS4⟩ := zk_all2_cons hS3
        obtain ⟨a0, rfl, hna0, hp0, hwT0⟩ := zk_typ_ok hw hG.1 hTs hSa
        obtain ⟨a, rfl, hna, hp, hwT⟩ := zk_typ_ok hw hG.1 hTd hSb
        obtain ⟨cA0, n0, f0, o1, o2, o3, o4, o5, o6, o7⟩ := zk_iarr hG.2.2.2.2.1 hp0 hwT0 (Or.inl c1)
        obtain ⟨cA, n, f, y1, y2, y3, y4, y5, y6, y7⟩ := zk_iarr hG.2.2.2.2.1 hp hwT (Or.inl c2)
        obtain ⟨ki, _, e1, e2⟩ : ∃ k g, N[qi.1]? = some k ∧ κ.1[qi.1]? = some g := by
          obtain ⟨g, k, h1, h2, -⟩ := hSi
          exact ⟨k, g, h2, h1⟩
        obtain ⟨i, rfl, i1, i2, i3, i4, i5, i6, i7⟩ := zk_ix_ok hG c3 hSi hna0 o1 o2 o3
        obtain ⟨j, rfl, j1, j2, j3, j4, j5, j6, j7⟩ := zk_ix_ok hG c4 hSj hna y1 y2 y3
        dsimp only at i3 i6 j3 j6
        have hdist : j - zk_lw κ.1 qj = i - zk_lw κ.1 qi := by
          have kq : zk_kd κ.1 qi = 0 := by
            unfold zk_ix at c3
            simp only [Bool.and_eq_true, beq_iff_eq] at c3
            exact c3.1.1.1
          have kq2 : zk_kd κ.1 qj = 0 := by
            unfold zk_ix at c4
            simp only [Bool.and_eq_true, beq_iff_eq] at c4
            exact c4.1.1.1
          obtain ⟨i', a1, a2, -, -, k1, a3, a4⟩ := hSi.int hG.1 kq
          obtain ⟨j', b1, b2, -, -, k2, b3, b4⟩ := hSj.int hG.1 kq2
          have a1 := Value.int.inj a1
          rw [zk_eq32 i1 a2] at a1
          have b1 := Value.int.inj b1
          rw [zk_eq32 j1 b2] at b1
          rw [← c5, a3] at b3
          cases b3
          have w1 : zk_lw κ.1 qi - qi.2 = zk_lw κ.1 qj - qj.2 := by
            unfold zk_lw
            rw [← c5, e2]
            dsimp only
            omega
          omega
        obtain ⟨z, z1, z2⟩ := o5 i.toNat (by omega)
        obtain ⟨t1, t2, t3⟩ := zk_cpj_ok (P := P) c6 (i.toNat - (zk_lw κ.1 qi).toNat) (by omega) z (by
          rw [show (zk_lw κ.1 qi).toNat + (i.toNat - (zk_lw κ.1 qi).toNat) = i.toNat by
            have : 0 ≤ zk_lw κ.1 qi := by unfold zk_ix at c3; simp only [Bool.and_eq_true, decide_eq_true_eq] at c3; exact c3.1.1.2
            omega]
          exact z1)
        have hlo : 0 ≤ zk_lw κ.1 qj := by unfold zk_ix at c4; simp only [Bool.and_eq_true, decide_eq_true_eq] at c4; exact c4.1.1.2
        have hlo0 : 0 ≤ zk_lw κ.1 qi := by unfold zk_ix at c3; simp only [Bool.and_eq_true, decide_eq_true_eq] at c3; exact c3.1.1.2
        rw [show (zk_lw κ.1 qi).toNat + (i.toNat - (zk_lw κ.1 qi).toNat) = i.toNat by omega] at t1
        rw [show (zk_lw κ.1 qj).toNat + (i.toNat - (zk_lw κ.1 qi).toNat) = j.toNat by omega] at t2 t3
        rw [c1] at o4
        rw [c2] at y4
        have hhi : j ≤ zk_hi κ.1 qj Td := by unfold zk_hi; omega
        have hhb : zk_hi κ.1 qj Td ≤ 2147483647 := by unfold zk_hi; unfold zk_ix at c4; simp only [Bool.and_eq_true, decide_eq_true_eq] at c4; have := c4.1.2; omega
        have hsame : zk_same (fun k => 2000 + (zk_lw κ.1 qj).toNat ≤ k ∧ k ≤ 2000 + (zk_hi κ.1 qj Td).toNat) (F a) (.inl (cA, n, .inl (zk_up f j.toNat (f0 i.toNat)))) := by
          rw [y1]
          refine ⟨rfl, rfl, fun q hq hP => ?_⟩
          show some (Value.int (f q)) = some (.int (zk_up f j.toNat _ q))
          rw [zk_up_ne (fun e => hP (by dsimp only; omega))]
        have hmay := zk_mayb_ok c7 hG.2.2.2.2.2.2.2.2.2.1 hG.2.2.2.2.2.2.2.2.2.2.1 hna (Int.natCast_nonneg _)
        rw [Int.toNat_natCast] at hmay
        have hxa : zk_rl P (zk_up F a (.inl (cA, n, .inl (zk_up f j.toNat (f0 i.toNat))))) t (.inl (cA, n, .inl (zk_up f j.toNat (f0 i.toNat)))) := by
          have hr0 := ((zk_wt1.some hwT).mp (hG.2.2.2.2.1 a t hp)).2.2.2
          rw [y1] at hr0
          exact zk_xi.put (f := fun q => (f q).toInt) (g := fun q => (zk_up f j.toNat (f0 i.toNat) q).toInt) hr0 c8 (fun q hq => by show (f q).toInt = (zk_up f j.toNat (f0 i.toNat) q).toInt; rw [zk_up_ne (fun e => by omega)])
        refine zw_iald hx hb o6 o4 i6 hdg ?_
        rw [i7]
        refine zw_iast hx hb y6 y4 j6 hd2 (fun H1 jj g1 hz hk => ?_)
        rw [j7] at g1
        refine kk N P _ H1 _ ls sv4 (zk_G.write hG hp hwT ?_ (show va_at _ _ (a, .inl (cA, n, .inl (zk_up f j.toNat (f0 i.toNat)))) H1 from g1) hz hk (L := [⟨a, jj⟩]) (fun q hq => by rw [List.mem_singleton.mp hq]) hsame (hmay.imp (fun z => z) (fun z k hk2 => z k (zk_ac_ok hlo hhb hk2))) hxa (fun q hq => by
          obtain ⟨q1, q2⟩ := List.mem_filter.mp hq
          exact zk_fa1_keep hG.1 (hG.2.2.1 q q1) hp hsame q2)) hS4
        unfold zk_el
        rw [c2]
        refine ⟨cA, n, _, rfl, y2, y3, y4, fun q hq => ?_⟩
        by_cases hqj : q = j.toNat
        · rw [hqj, zk_up_self]
          refine ⟨z, t3, ?_⟩
          rw [z2, t1, t2]
        · rw [zk_up_ne hqj]
          exact y5 q hq
      · cases hs
    · cases hs
  · cases hs
end ZK18
end
section
/-! part 19: what is known fits a marked place; measures -/
abbrev zk_Lf : Type := Int × List (Int × Nat)
/-- a marked place: pc, what is known, the stack, cells and slots made so far, a measure that falls -/
abbrev zk_An : Type := Nat × zk_C × List zk_S × Nat × Nat × zk_Lf
def zk_lev (N : List Int) : List (Int × Nat) → Int
  | [] => 0
  | t :: r => t.1 * N.getD t.2 0 + zk_lev N r
def zk_ladd (t : Int × Nat) : List (Int × Nat) → List (Int × Nat)
  | [] => [t]
  | v :: r => if v.2 = t.2 then (v.1 + t.1, v.2) :: r else v :: zk_ladd t r
theorem zk_ladd_ok {N : List Int} {t : Int × Nat} : ∀ {l : List (Int × Nat)}, zk_lev N (zk_ladd t l) = t.1 * N.getD t.2 0 + zk_lev N l
  | [] => rfl
  | v :: r => by
    unfold zk_ladd
    split
    · rename_i h
      show (v.1 + t.1) * N.getD v.2 0 + zk_lev N r = t.1 * N.getD t.2 0 + (v.1 * N.getD v.2 0 + zk_lev N r)
      rw [h, Int.add_mul]
      omega
    · show v.1 * N.getD v.2 0 + zk_lev N (zk_ladd t r) = t.1 * N.getD t.2 0 + (v.1 * N.getD v.2 0 + zk_lev N r)
      rw [zk_ladd_ok]
      omega
def zk_lall (l : List (Int × Nat)) : List (Int × Nat) → List (Int × Nat)
  | [] => l
  | t :: r => zk_ladd t (zk_lall l r)
theorem zk_lall_ok {N : List Int} {l : List (Int × Nat)} : ∀ {r : List (Int × Nat)}, zk_lev N (zk_lall l r) = zk_lev N r + zk_lev N l
  | [] => by simp [zk_lall, zk_lev]
  | t :: r => by
    show zk_lev N (zk_ladd t (zk_lall l r)) = (t.1 * N.getD t.2 0 + zk_lev N r) + zk_lev N l
    rw [zk_ladd_ok, zk_lall_ok]
    omega
/-- a lower bound by the variables' bounds; none where there is none -/
def zk_lbd (V : List zk_F) : List (Int × Nat) → Option Int
  | [] => some 0
  | t :: r => match zk_lbd V r with
    | none => none
    | some b => if t.1 = 0 then some b else match V[t.2]? with
      | some f => if f.1 < 2 then some (b + (if 0 < t.1 then t.1 * f.2.2.1 else t.1 * f.2.2.2)) else none
      | none => none
theorem zk_lbd_ok {P : Nat → Option Nat} {V : List zk_F} {N : List Int} (hV : zk_all2 (zk_ok P) V N) : ∀ {l : List (Int × Nat)} {b : Int}, zk_lbd V l = some b → b ≤ zk_lev N l
  | [], b, h => by
    cases h
    exact Int.le_refl _
  | t :: r, b, h => by
    unfold zk_lbd at h
    split at h
    · cases h
    · rename_i b' hb'
      have ih := zk_lbd_ok hV hb'
      show b ≤ t.1 * N.getD t.2 0 + zk_lev N r
      split at h
      · rename_i h0
        cases h
        rw [h0]
        omega
      · rename_i h0
        split at h
        · rename_i f hf
          split at h
          · rename_i hk
            cases h
            obtain ⟨n, e1, e2⟩ := zk_all2_get hV hf
            have iv := e2.iv hk
            have e3 : N.getD t.2 0 = n := by rw [List.getD_eq_getElem?_getD, e1]; rfl
            rw [e3]
            by_cases hp : 0 < t.1
            · rw [if_pos hp]
              have := Int.mul_le_mul_of_nonneg_left iv.1 (Int.le_of_lt hp)
              omega
            · rw [if_neg hp]
              have := Int.mul_le_mul_of_nonpos_left (a := t.1) (by omega) iv.2
              omega
          · cases h
        · cases h
theorem zk_getD_pre {N N' : List Int} (h : ∀ (i : Nat) (n : Int), N[i]? = some n → N'[i]? = some n) {x : Nat} (hx : x < N.length) : N'.getD x 0 = N.getD x 0 := by
  have e : N[x]? = some N[x] := List.getElem?_eq_getElem hx
  rw [List.getD_eq_getElem?_getD, List.getD_eq_getElem?_getD, e, h x _ e]
theorem zk_lev_pre {N N' : List Int} (h : ∀ (i : Nat) (n : Int), N[i]? = some n → N'[i]? = some n) : ∀ {l : List (Int × Nat)}, l.all (fun t => decide (t.2 < N.length)) = true → zk_lev N' l = zk_lev N l
  | [], _ => rfl
  | t :: r, hl => by
    simp only [List.all_cons, Bool.and_eq_true, decide_eq_true_eq] at hl
    show t.1 * N'.getD t.2 0 + zk_lev N' r = t.1 * N.getD t.2 0 + zk_lev N r
    rw [zk_getD_pre h hl.1, zk_lev_pre h (by simpa using hl.2)]
/-- the values of the marked place's variables, out of what is known: by locals, the stack, fields, objects not yet made -/
def zk_th1v (κ : zk_C) (st : List zk_S) (A : zk_An) (acc : List zk_S) (z : Nat) : zk_S :=
  if z < 3 then (z, 0) else
  match A.2.1.2.2.2.2.1.find? (fun q => q.2.1 == z && q.2.2 == 0) with
  | some q => (match κ.2.2.2.2.1.find? (fun r => r.1 == q.1) with
    | some r => r.2
    | none => (0, 0))
  | none => match (A.2.2.1.zip st).find? (fun q => q.1.1 == z && q.1.2 == 0) with
    | some q => q.2
    | none => match A.2.1.2.2.1.find? (fun q => q.2.2.1 == z && q.2.2.2 == 0) with
      | some q => (match acc[q.1]? with
        | some y => (match zk_fnd κ y.1 q.2.1 with
          | some r => r
          | none => (0, 0))
        | none => (0, 0))
      | none => match A.2.1.2.2.2.2.2.1.find? (fun q => q.2 == z) with
        | some q => (match κ.2.2.2.2.2.1.find? (fun r => r.1 == q.1) with
          | some r => (r.2, 0)
          | none => (0, 0))
        | none => match ((A.2.1.2.2.2.1.zip κ.2.2.2.1).flatMap (fun q => (q.1.2.2.zip q.2.2.2))).find? (fun q => q.1.1 == z && q.1.2 == 0) with
          | some q => q.2
          | none => match (A.2.1.2.2.2.1.zip κ.2.2.2.1).find? (fun q => q.1.1 == z) with
            | some q => (q.2.1, 0)
            | none => (0, 0)
def zk_thv (κ : zk_C) (st : List zk_S) (A : zk_An) : Nat → List zk_S
  | 0 => []
  | k + 1 => let acc := zk_thv κ st A k; acc ++ [zk_th1v κ st A acc k]
def zk_sub (θ : List zk_S) (q : zk_S) : Option zk_S := match θ[q.1]? with
  | some r => some (r.1, r.2 + q.2)
  | none => none
def zk_leb (κ : zk_C) (a b : zk_S) (d : Int) : Bool := decide (zk_kd κ.1 a < 2) && decide (zk_kd κ.1 b < 2) && (decide (zk_hg κ.1 a ≤ zk_lw κ.1 b + d) || (a.1 == b.1 && decide (a.2 ≤ b.2 + d)) || κ.2.1.any (fun q => q.1 == a.1 && q.2.1 == b.1 && decide (q.2.2 + a.2 ≤ b.2 + d)))
def zk_vfit (V : List zk_F) (q : zk_S) (f : zk_F) : Bool := if f.1 = 3 then zk_kd V q == 3 && q.2 == 0 else zk_fits V q f && (if f.1 = 0 then decide (zk_m31 ≤ f.2.2.1) && decide (f.2.2.2 ≤ zk_p31) else if f.1 = 1 then decide (-9223372036854775808 ≤ f.2.2.1) && decide (f.2.2.2 ≤ 9223372036854775807) else true)
def zk_vfits (V : List zk_F) : List zk_S → List zk_F → Bool
  | [], [] => true
  | q :: qs, f :: fs => zk_vfit V q f && zk_vfits V qs fs
  | _, _ => false
def zk_subs (θ : List zk_S) : List zk_S → List zk_S → Bool
  | [], [] => true
  | a :: as, b :: bs => decide (zk_sub θ a = some b) && zk_subs θ as bs
  | _, _ => false
def zk_mrw (θ : List zk_S) : List (Nat × Nat × List zk_S) → List (Nat × Nat × List zk_S) → Bool
  | [], _ => true
  | a :: as, b :: bs => decide (zk_sub θ (a.1, 0) = some (b.1, 0)) && decide (a.2.1 = b.2.1) && zk_subs θ a.2.2 b.2.2 && zk_mrw θ as bs
  | _, _ => false
/-- all that the marked place asks is known -/
def zk_mt (κ : zk_C) (st : List zk_S) (cu su : Nat) (A : zk_An) (θ : List zk_S) : Bool :=
  zk_vfits κ.1 θ A.2.1.1
  && A.2.1.2.2.2.2.1.all (fun q => match zk_sub θ q.2 with
    | some r => κ.2.2.2.2.1.contains (q.1, r)
    | none => false)
  && zk_subs θ A.2.2.1 st
  && A.2.1.2.1.all (fun d => match zk_sub θ (d.1, 0), zk_sub θ (d.2.1, 0) with
    | some a, some b => zk_leb κ a b d.2.2
    | _, _ => false)
  && A.2.1.2.2.1.all (fun q => match zk_sub θ (q.1, 0), zk_sub θ q.2.2 with
    | some a, some b => a.2 == 0 && κ.2.2.1.contains (a.1, q.2.1, b)
    | _, _ => false)
  && zk_mrw θ A.2.1.2.2.2.1 κ.2.2.2.1
  && A.2.1.2.2.2.2.2.1.all (fun q => match zk_sub θ (q.2, 0) with
    | some a => a.2 == 0 && κ.2.2.2.2.2.1.contains (q.1, a.1)
    | none => false)
  && A.2.1.2.2.2.2.2.2.all (fun z => match zk_sub θ (z, 0) with
    | some a => a.2 == 0 && κ.2.2.2.2.2.2.contains a.1
    | none => false)
  && decide (cu ≤ A.2.2.2.1) && decide (su ≤ A.2.2.2.2.1)
def zk_lsub (θ : List zk_S) : List (Int × Nat) → Option zk_Lf
  | [] => some (0, [])
  | t :: r => match zk_sub θ (t.2, 0), zk_lsub θ r with
    | some q, some l => some (l.1 + t.1 * q.2, (t.1, q.1) :: l.2)
    | _, _ => none
/-- by the differences: pairs of variables go -/
def zk_cof (l : List (Int × Nat)) (x : Nat) : Int := match l with
  | [] => 0
  | t :: r => (if t.2 = x then t.1 else 0) + zk_cof r x
theorem zk_cof_ok {N : List Int} {x : Nat} : ∀ {l : List (Int × Nat)}, zk_lev N l = zk_cof l x * N.getD x 0 + zk_lev N (l.filter (fun t => t.2 != x))
  | [] => by simp [zk_lev, zk_cof]
  | t :: r => by
    have ih := zk_cof_ok (N := N) (x := x) (l := r)
    unfold zk_cof
    show t.1 * N.getD t.2 0 + zk_lev N r = _
    by_cases h : t.2 = x
    · rw [if_pos h, List.filter_cons_of_neg (by simp [h]), ih, h, Int.add_mul]
      omega
    · rw [if_neg h, List.filter_cons_of_pos (by simpa using h), Int.zero_add]
      show _ = _ + (t.1 * N.getD t.2 0 + zk_lev N (r.filter _))
      omega
def zk_lel : List (Nat × Nat × Int) → zk_Lf → zk_Lf
  | [], l => l
  | d :: D, l => if zk_cof l.2 d.1 < 0 ∧ zk_cof l.2 d.2.1 = -(zk_cof l.2 d.1) ∧ d.1 ≠ d.2.1 then zk_lel D (l.1 + zk_cof l.2 d.1 * d.2.2, (l.2.filter (fun t => t.2 != d.1)).filter (fun t => t.2 != d.2.1)) else zk_lel D l
theorem zk_cof_filter {x y : Nat} (h : x ≠ y) : ∀ {l : List (Int × Nat)}, zk_cof (l.filter (fun t => t.2 != y)) x = zk_cof l x
  | [] => rfl
  | t :: r => by
    by_cases e : t.2 = y
    · rw [List.filter_cons_of_neg (by simp [e]), zk_cof_filter h]
      show _ = (if t.2 = x then t.1 else 0) + zk_cof r x
      rw [if_neg (by omega), Int.zero_add]
    · rw [List.filter_cons_of_pos (by simpa using e)]
      show (if t.2 = x then t.1 else 0) + zk_cof (r.filter _) x = (if t.2 = x then t.1 else 0) + zk_cof r x
      rw [zk_cof_filter h]
theorem zk_lel_ok {N : List Int} : ∀ {D : List (Nat × Nat × Int)} {l : zk_Lf}, zk_df N D → (zk_lel D l).1 + zk_lev N (zk_lel D l).2 ≤ l.1 + zk_lev N l.2
  | [], l, _ => Int.le_refl _
  | d :: D, l, h => by
    have ih := fun l => zk_lel_ok (N := N) (D := D) (l := l) (fun q hq => h q (List.mem_cons_of_mem _ hq))
    unfold zk_lel
    split
    · rename_i hc
      obtain ⟨h1, h2, h3⟩ := hc
      refine Int.le_trans (ih _) ?_
      dsimp only
      obtain ⟨n, k, e1, e2, e3⟩ := h d List.mem_cons_self
      have c1 := zk_cof_ok (N := N) (x := d.1) (l := l.2)
      have c2 := zk_cof_ok (N := N) (x := d.2.1) (l := l.2.filter (fun t => t.2 != d.1))
      rw [zk_cof_filter (Ne.symm h3), h2] at c2
      have g1 : N.getD d.1 0 = n := by rw [List.getD_eq_getElem?_getD, e1]; rfl
      have g2 : N.getD d.2.1 0 = k := by rw [List.getD_eq_getElem?_getD, e2]; rfl
      rw [g1] at c1
      rw [g2] at c2
      rw [c1, c2]
      generalize zk_cof l.2 d.1 = a at h1 ⊢
      have e4 : a * (k + d.2.2) ≤ a * n := Int.mul_le_mul_of_nonpos_left (by omega) e3
      rw [Int.mul_add] at e4
      rw [Int.neg_mul]
      omega
    · exact ih l
/-- the measure falls -/
def zk_fallb (V : List zk_F) (l : zk_Lf) : Bool := match zk_lbd V l.2 with
  | some b => decide (1 ≤ l.1 + b)
  | none => false
def zk_fall (κ : zk_C) (M0 : Option zk_Lf) (A : zk_An) (θ : List zk_S) : Bool := match M0 with
  | none => true
  | some M => match zk_lsub θ A.2.2.2.2.2.2 with
    | some l => zk_fallb κ.1 (M.1 - A.2.2.2.2.2.1 - l.1, zk_lall M.2 (l.2.map (fun t => (-t.1, t.2)))) || zk_fallb κ.1 (zk_lel κ.2.1 (M.1 - A.2.2.2.2.2.1 - l.1, zk_lall M.2 (l.2.map (fun t => (-t.1, t.2)))))
    | none => false
section ZK19
variable {p : Program} {l : Launch} {e : Env} {R : Room} {s : State} {m : MethodId} {args : Array Value} {below : List Frame} {meth : Method} {c : Code} {Q : State → Prop}
variable {cc : ByteArray} {w : zk_W} {u : zk_M} {Ts : List Jvm.Cond} {own : String}
def zk_val (N : List Int) (q : zk_S) : Int := N.getD q.1 0 + q.2
theorem zk_val_ok {N : List Int} {q : zk_S} {k : Int} (h : N[q.1]? = some k) : zk_val N q = k + q.2 := by
  unfold zk_val
  rw [List.getD_eq_getElem?_getD, h]
  rfl
theorem zk_leb_ok {κ : zk_C} {N : List Int} {P : Nat → Option Nat} (hV : zk_all2 (zk_ok P) κ.1 N) (hD : zk_df N κ.2.1) {a b : zk_S} {d : Int} (h : zk_leb κ a b d = true) {x y : Int} (ha : N[a.1]? = some x) (hb : N[b.1]? = some y) : x + a.2 ≤ y + b.2 + d := by
  unfold zk_leb at h
  simp only [Bool.and_eq_true, Bool.or_eq_true, decide_eq_true_eq, beq_iff_eq] at h
  obtain ⟨⟨k1, k2⟩, h⟩ := h
  have bnd : ∀ {q : zk_S} {n : Int}, zk_kd κ.1 q < 2 → N[q.1]? = some n → zk_lw κ.1 q ≤ n + q.2 ∧ n + q.2 ≤ zk_hg κ.1 q := by
    intro q n hk hn
    obtain ⟨f, e1, e2⟩ := zk_all2_getR hV hn
    unfold zk_kd at hk
    unfold zk_lw zk_hg
    rw [e1] at hk ⊢
    have iv := e2.iv hk
    dsimp only
    omega
  have b1 := bnd k1 ha
  have b2 := bnd k2 hb
  rcases h with (h | h) | h
  · omega
  · rw [h.1, hb] at ha
    cases ha
    have := h.2
    omega
  · obtain ⟨q, q1, q2⟩ := List.any_eq_true.mp h
    simp only [Bool.and_eq_true, decide_eq_true_eq, beq_iff_eq] at q2
    obtain ⟨n, k, e1, e2, e3⟩ := hD q q1
    rw [q2.1.1, ha] at e1
    rw [q2.1.2, hb] at e2
    cases e1
    cases e2
    have := q2.2
    omega
theorem zk_vfit_ok {V : List zk_F} {N : List Int} {P : Nat → Option Nat} (hV : zk_all2 (zk_ok P) V N) {q : zk_S} {f : zk_F} (h : zk_vfit V q f = true) : ∃ k g, N[q.1]? = some k ∧ V[q.1]? = some g ∧ f.1 = g.1 ∧ zk_ok P f (k + q.2) := by
  unfold zk_vfit at h
  split at h
  · rename_i hf
    simp only [Bool.and_eq_true, beq_iff_eq] at h
    unfold zk_kd at h
    cases hg : V[q.1]? with
    | none => rw [hg] at h; exact absurd h.1 (by decide)
    | some g =>
      rw [hg] at h
      obtain ⟨n, e1, e2⟩ := zk_all2_get hV hg
      have hk : g.1 = 3 := h.1
      refine ⟨n, g, e1, rfl, by omega, ?_⟩
      rw [h.2, Int.add_zero]
      obtain ⟨fk, fr⟩ := f
      obtain ⟨gk, gr⟩ := g
      dsimp only at hf hk
      subst hf; subst hk
      exact e2
  · rw [Bool.and_eq_true] at h
    obtain ⟨h1, h2⟩ := h
    have h1' := h1
    unfold zk_fits at h1'
    cases hg : V[q.1]? with
    | none => rw [hg] at h1'; cases h1'
    | some g =>
      rw [hg] at h1'
      obtain ⟨n, e1, e2⟩ := zk_all2_get hV hg
      have hr : zk_rg g.1 (n + q.2) := by
        obtain ⟨fk, ft, fl, fh⟩ := f
        obtain ⟨gk, gt, gl, gh⟩ := g
        dsimp only at h1' h2
        match gk, e2 with
        | 0, e2 =>
          have iv := zk_ok.iv e2 (by first | exact (show 0 < 2 by decide) | exact (show 1 < 2 by decide))
          dsimp only at iv
          split at h1'
          · simp only [Bool.and_eq_true, beq_iff_eq, decide_eq_true_eq] at h1'
            obtain ⟨⟨rfl, h5⟩, h6⟩ := h1'
            simp only [if_true, Bool.and_eq_true, decide_eq_true_eq] at h2
            unfold zk_m31 zk_p31 at h2
            exact ⟨by omega, by omega⟩
          · simp at h1'
        | 1, e2 =>
          have iv := zk_ok.iv e2 (by first | exact (show 0 < 2 by decide) | exact (show 1 < 2 by decide))
          dsimp only at iv
          split at h1'
          · simp only [Bool.and_eq_true, beq_iff_eq, decide_eq_true_eq] at h1'
            obtain ⟨⟨rfl, h5⟩, h6⟩ := h1'
            simp at h2
            exact ⟨by omega, by omega⟩
          · simp at h1'
        | k + 2, _ => exact trivial
      obtain ⟨y1, y2, y3⟩ := zk_fits_n hV h1 hg e1 hr
      exact ⟨n, g, e1, rfl, y2, y1⟩
theorem zk_vfits_ok {V : List zk_F} {N : List Int} {P : Nat → Option Nat} (hV : zk_all2 (zk_ok P) V N) : ∀ {θ : List zk_S} {fs : List zk_F}, zk_vfits V θ fs = true → zk_all2 (zk_ok P) fs (θ.map (zk_val N)) ∧ ∀ (z : Nat) (q : zk_S) (f : zk_F), θ[z]? = some q → fs[z]? = some f → ∃ k g, N[q.1]? = some k ∧ V[q.1]? = some g ∧ f.1 = g.1
  | [], [], _ => ⟨trivial, fun z q f h => by simp at h⟩
  | q :: qs, f :: fs, h => by
    unfold zk_vfits at h
    rw [Bool.and_eq_true] at h
    obtain ⟨k, g, e1, e2, e3, e4⟩ := zk_vfit_ok hV h.1
    obtain ⟨i1, i2⟩ := zk_vfits_ok hV h.2
    refine ⟨⟨by rw [zk_val_ok e1]; exact e4, i1⟩, fun z q' f' hq hf => ?_⟩
    match z with
    | 0 =>
      simp at hq hf
      subst hq; subst hf
      exact ⟨k, g, e1, e2, e3⟩
    | z + 1 => exact i2 z q' f' (by simpa using hq) (by simpa using hf)
  | [], _ :: _, h => by simp [zk_vfits] at h
  | _ :: _, [], h => by simp [zk_vfits] at h
/-- a value of the marked place is the value that it stands for -/
theorem zk_sub_sv {V VA : List zk_F} {N : List Int} {θ : List zk_S} (hlen : θ.length = VA.length) (hth : ∀ (z : Nat) (q : zk_S) (f : zk_F), θ[z]? = some q → VA[z]? = some f → ∃ k g, N[q.1]? = some k ∧ V[q.1]? = some g ∧ f.1 = g.1) {a b : zk_S} (h : zk_sub θ a = some b) {v : Value} (hv : zk_sv V N b v) : zk_sv VA (θ.map (zk_val N)) a v := by
  unfold zk_sub at h
  split at h
  · rename_i r hr
    cases h
    have hl : a.1 < VA.length := by rw [← hlen]; exact (List.getElem?_eq_some_iff.mp hr).1
    obtain ⟨k, g, e1, e2, e3⟩ := hth a.1 r _ hr (List.getElem?_eq_getElem hl)
    obtain ⟨f, n, y1, y2, y3, y4⟩ := hv
    dsimp only at y1 y2 y3 y4
    cases e1.symm.trans y2
    cases e2.symm.trans y1
    refine ⟨VA[a.1], zk_val N r, List.getElem?_eq_getElem hl, by rw [List.getElem?_map, hr]; rfl, ?_, ?_⟩
    · rw [e3, zk_val_ok e1, Int.add_assoc]
      exact y3
    · rw [e3, zk_val_ok e1, Int.add_assoc]
      exact y4
  · cases h
theorem zk_sub_n {V VA : List zk_F} {N : List Int} {θ : List zk_S} (hlen : θ.length = VA.length) (hth : ∀ (z : Nat) (q : zk_S) (f : zk_F), θ[z]? = some q → VA[z]? = some f → ∃ k g, N[q.1]? = some k ∧ V[q.1]? = some g ∧ f.1 = g.1) {z : Nat} {b : zk_S} (h : zk_sub θ (z, 0) = some b) : ∃ k, N[b.1]? = some k ∧ (θ.map (zk_val N))[z]? = some (k + b.2) := by
  unfold zk_sub at h
  split at h
  · rename_i r hr
    dsimp only at hr h
    cases h
    have hl : z < VA.length := by rw [← hlen]; exact (List.getElem?_eq_some_iff.mp hr).1
    obtain ⟨k, g, e1, e2, e3⟩ := hth z r _ hr (List.getElem?_eq_getElem hl)
    refine ⟨k, e1, ?_⟩
    rw [List.getElem?_map, hr, Option.map_some, zk_val_ok e1, Int.add_zero]
  · cases h
theorem zk_subs_sv {V VA : List zk_F} {N : List Int} {θ : List zk_S} (hlen : θ.length = VA.length) (hth : ∀ (z : Nat) (q : zk_S) (f : zk_F), θ[z]? = some q → VA[z]? = some f → ∃ k g, N[q.1]? = some k ∧ V[q.1]? = some g ∧ f.1 = g.1) : ∀ {as bs : List zk_S} {vs : List Value}, zk_subs θ as bs = true → zk_all2 (zk_sv V N) bs vs → zk_all2 (zk_sv VA (θ.map (zk_val N))) as vs
  | [], [], [], _, _ => trivial
  | a :: as, b :: bs, v :: vs, h, hv => by
    unfold zk_subs at h
    rw [Bool.and_eq_true] at h
    exact ⟨zk_sub_sv hlen hth (of_decide_eq_true h.1) hv.1, zk_subs_sv hlen hth h.2 hv.2⟩
  | [], _ :: _, _, h, _ => by simp [zk_subs] at h
  | _ :: _, [], _, h, _ => by simp [zk_subs] at h
  | [], [], _ :: _, _, hv => hv.elim
  | _ :: _, _ :: _, [], _, hv => hv.elim
theorem zk_mrw_ok {V VA : List zk_F} {N : List Int} {θ : List zk_S} {P : Nat → Option Nat} {H : Heap} {X : Nat → Prop} (hlen : θ.length = VA.length) (hth : ∀ (z : Nat) (q : zk_S) (f : zk_F), θ[z]? = some q → VA[z]? = some f → ∃ k g, N[q.1]? = some k ∧ V[q.1]? = some g ∧ f.1 = g.1) : ∀ {as bs : List (Nat × Nat × List zk_S)} {b : Nat}, zk_mrw θ as bs = true → zk_rw w X V N P H bs b → zk_rw w X VA (θ.map (zk_val N)) P H as b
  | [], _, _, _, _ => trivial
  | a :: as, q :: bs, b, h, ⟨n, fs, h1, h2, h3, h4, h5, h6, h7⟩ => by
    unfold zk_mrw at h
    simp only [Bool.and_eq_true, decide_eq_true_eq] at h
    obtain ⟨⟨⟨g1, g2⟩, g3⟩, g4⟩ := h
    obtain ⟨k, e1, e2⟩ := zk_sub_n hlen hth g1
    dsimp only at e1 e2
    rw [h1] at e1
    cases e1
    rw [Int.add_zero] at e2
    exact ⟨n, fs, e2, h2, h3, h4, by rw [g2]; exact h5, zk_subs_sv hlen hth g3 h6, zk_mrw_ok hlen hth g4 h7⟩
  | _ :: _, [], _, h, _ => by simp [zk_mrw] at h
theorem zk_mt_ok {κ : zk_C} {N : List Int} {P : Nat → Option Nat} {F : Nat → va_E} {H : Heap} {locs : List Loc} {ls : Array Slot} (hG : zk_G w s u κ N P F H locs ls) {st : List zk_S} {sv : List Value} (hS : zk_all2 (zk_sv κ.1 N) st sv) {cu su : Nat} {A : zk_An} {θ : List zk_S} (h : zk_mt κ st cu su A θ = true) :
    zk_G w s (u.1, u.2.1, u.2.2.1, u.2.2.2.1, θ.map (zk_val N), u.2.2.2.2.2) A.2.1 (θ.map (zk_val N)) P F H locs ls ∧ zk_all2 (zk_sv A.2.1.1 (θ.map (zk_val N))) A.2.2.1 sv ∧ cu ≤ A.2.2.2.1 ∧ su ≤ A.2.2.2.2.1 ∧ θ.length = A.2.1.1.length := by
  unfold zk_mt at h
  simp only [Bool.and_eq_true, decide_eq_true_eq] at h
  obtain ⟨⟨⟨⟨⟨⟨⟨⟨⟨m1, m2⟩, m3⟩, m4⟩, m5⟩, m6⟩, m7⟩, m8⟩, m9⟩, m10⟩ := h
  obtain ⟨h1, h2, h3, h4, h5, h6, h7, h8, h9, h10, h11, h12, h13⟩ := hG
  obtain ⟨v1, hth⟩ := zk_vfits_ok h1 m1
  have hlen : θ.length = A.2.1.1.length := by
    have := zk_all2_len v1
    rw [List.length_map] at this
    exact this.symm
  refine ⟨⟨v1, fun d hd => ?_, fun q hq => ?_, zk_mrw_ok hlen hth m6 h4, h5, ?_, h7, h8, h9, fun q hq => ?_, fun z hz => ?_, fun i n hi => hi, h13⟩, zk_subs_sv hlen hth m3 hS, m9, m10, hlen⟩
  · have := List.all_eq_true.mp m4 d hd
    split at this
    · rename_i a b ha hb
      obtain ⟨k1, e1, e2⟩ := zk_sub_n hlen hth ha
      obtain ⟨k2, e3, e4⟩ := zk_sub_n hlen hth hb
      exact ⟨_, _, e2, e4, zk_leb_ok h1 h2 this e1 e3⟩
    · cases this
  · have := List.all_eq_true.mp m5 q hq
    split at this
    · rename_i a b ha hb
      simp only [Bool.and_eq_true, beq_iff_eq] at this
      obtain ⟨k1, e1, e2⟩ := zk_sub_n hlen hth ha
      obtain ⟨n, t, v, g1, g2, g3, g4, g5⟩ := h3 _ (List.contains_iff_mem.mp this.2)
      dsimp only at g1 g4 g5
      rw [e1] at g1
      cases g1
      rw [this.1, Int.add_zero] at e2
      exact ⟨k1, t, v, e2, g2, g3, g4, zk_sub_sv hlen hth hb g5⟩
    · cases this
  · obtain ⟨lv, l1, l2⟩ := h6
    have hex : ∀ q ∈ A.2.1.2.2.2.2.1, ∃ v, ls[q.1]? = some (.val v) ∧ zk_sv A.2.1.1 (θ.map (zk_val N)) q.2 v := by
      intro q hq
      have := List.all_eq_true.mp m2 q hq
      split at this
      · rename_i r hr
        obtain ⟨v, e1, e2⟩ := zk_ld_ok ⟨lv, l1, l2⟩ (List.contains_iff_mem.mp this)
        exact ⟨v, e1, zk_sub_sv hlen hth hr e2⟩
      · cases this
    have bld : ∀ L : List (Nat × zk_S), (∀ q ∈ L, ∃ v, ls[q.1]? = some (.val v) ∧ zk_sv A.2.1.1 (θ.map (zk_val N)) q.2 v) → ∃ lv : List (Nat × Value), (∀ r ∈ lv, ls[r.1]? = some (.val r.2)) ∧ zk_all2 (zk_lr A.2.1.1 (θ.map (zk_val N))) L lv := by
      intro L
      induction L with
      | nil => exact fun _ => ⟨[], (fun r hr => absurd hr List.not_mem_nil), trivial⟩
      | cons q L ih =>
        intro hL
        obtain ⟨v, e1, e2⟩ := hL q List.mem_cons_self
        obtain ⟨lv', g1, g2⟩ := ih (fun q hq => hL q (List.mem_cons_of_mem _ hq))
        refine ⟨(q.1, v) :: lv', fun r hr => ?_, ⟨rfl, e2⟩, g2⟩
        rcases List.mem_cons.mp hr with rfl | hr
        · exact e1
        · exact g1 r hr
    obtain ⟨lv', g1, g2⟩ := bld _ hex
    exact ⟨lv', ⟨l1.1, l1.2.1, g1⟩, g2⟩
  · have := List.all_eq_true.mp m7 q hq
    split at this
    · rename_i a ha
      simp only [Bool.and_eq_true, beq_iff_eq] at this
      obtain ⟨k1, e1, e2⟩ := zk_sub_n hlen hth ha
      obtain ⟨n, y1, y2⟩ := h10 _ (List.contains_iff_mem.mp this.2)
      dsimp only at y1 y2
      rw [e1] at y1
      cases y1
      rw [this.1, Int.add_zero] at e2
      exact ⟨k1, e2, y2⟩
    · cases this
  · have := List.all_eq_true.mp m8 z hz
    split at this
    · rename_i a ha
      simp only [Bool.and_eq_true, beq_iff_eq] at this
      obtain ⟨k1, e1, e2⟩ := zk_sub_n hlen hth ha
      obtain ⟨n, y1, y2⟩ := h11 _ (List.contains_iff_mem.mp this.2)
      rw [e1] at y1
      cases y1
      rw [this.1, Int.add_zero] at e2
      exact ⟨k1, e2, y2⟩
    · cases this
theorem zk_lsub_ok {V VA : List zk_F} {N : List Int} {θ : List zk_S} (hlen : θ.length = VA.length) (hth : ∀ (z : Nat) (q : zk_S) (f : zk_F), θ[z]? = some q → VA[z]? = some f → ∃ k g, N[q.1]? = some k ∧ V[q.1]? = some g ∧ f.1 = g.1) : ∀ {ts : List (Int × Nat)} {l : zk_Lf}, zk_lsub θ ts = some l → zk_lev (θ.map (zk_val N)) ts = l.1 + zk_lev N l.2
  | [], l, h => by
    cases h
    rfl
  | t :: r, l, h => by
    unfold zk_lsub at h
    split at h
    · rename_i q l' hq hl'
      cases h
      have ih := zk_lsub_ok hlen hth hl'
      obtain ⟨k, e1, e2⟩ := zk_sub_n hlen hth hq
      show t.1 * (θ.map (zk_val N)).getD t.2 0 + zk_lev _ r = (l'.1 + t.1 * q.2) + (t.1 * N.getD q.1 0 + zk_lev N l'.2)
      rw [ih, List.getD_eq_getElem?_getD, e2, List.getD_eq_getElem?_getD, e1]
      show t.1 * (k + q.2) + _ = _ + (t.1 * k + _)
      rw [Int.mul_add]
      omega
    · cases h
theorem zk_neg_lev {N : List Int} : ∀ {l : List (Int × Nat)}, zk_lev N (l.map (fun t => (-t.1, t.2))) = -zk_lev N l
  | [] => rfl
  | t :: r => by
    show -t.1 * N.getD t.2 0 + zk_lev N (r.map _) = -(t.1 * N.getD t.2 0 + zk_lev N r)
    rw [zk_neg_lev, Int.neg_mul]
    omega
theorem zk_fall_ok {κ : zk_C} {N : List Int} {P : Nat → Option Nat} {F : Nat → va_E} {H : Heap} {locs : List Loc} {ls : Array Slot} (hG : zk_G w s u κ N P F H locs ls) {A : zk_An} {θ : List zk_S} (hv : zk_vfits κ.1 θ A.2.1.1 = true) {M : zk_Lf} (h : zk_fall κ (some M) A θ = true) : A.2.2.2.2.2.1 + zk_lev (θ.map (zk_val N)) A.2.2.2.2.2.2 + 1 ≤ M.1 + zk_lev N M.2 := by
  obtain ⟨v1, hth⟩ := zk_vfits_ok hG.1 hv
  have hlen : θ.length = A.2.1.1.length := by
    have := zk_all2_len v1
    rw [List.length_map] at this
    exact this.symm
  unfold zk_fall at h
  dsimp only at h
  split at h
  · rename_i l hl
    have e1 := zk_lsub_ok hlen hth hl
    have e0 : ∀ r : zk_Lf, zk_fallb κ.1 r = true → 1 ≤ r.1 + zk_lev N r.2 := fun r hr => by
      unfold zk_fallb at hr
      split at hr
      · rename_i b hb
        have := of_decide_eq_true hr
        have := zk_lbd_ok hG.1 hb
        omega
      · cases hr
    have e3 : zk_lev N (zk_lall M.2 (l.2.map (fun t => (-t.1, t.2)))) = zk_lev N M.2 - zk_lev N l.2 := by
      rw [zk_lall_ok, zk_neg_lev]
      omega
    rcases Bool.or_eq_true _ _ ▸ h with h | h
    · have := e0 _ h
      dsimp only at this
      omega
    · have h1 := e0 _ h
      have h2 := zk_lel_ok (N := N) (D := κ.2.1) (l := (M.1 - A.2.2.2.2.2.1 - l.1, zk_lall M.2 (l.2.map (fun t => (-t.1, t.2))))) hG.2.1
      dsimp only at h2
      omega
  · cases h
end ZK19
end
section
/-! part 20: a method's whole run is looked through -/
abbrev zk_Ev : Type := List zk_T × List zk_L × List (List zk_S) × List zk_K × List Nat × List (Nat × Nat × Nat) × zk_K
/-- a row of code: pc, instruction, length, a note, a value whose cases are taken one by one -/
abbrev zk_Ci : Type := Nat × ClassFile.Instr × Nat × Nat × List (Nat × Int × Nat)
def zk_ev (E : zk_Ev) : zk_K := E.2.2.2.2.2.2
def zk_stp (E : zk_Ev) (nx : Option (ClassFile.Instr × Nat)) (an : Nat) (i : ClassFile.Instr) (len pc : Nat) (κ : zk_C) (st : List zk_S) (cu su : Nat) : Option (List zk_O) :=
  match zk_s11 E.1 (zk_Ke (zk_ev E)) an nx i len pc κ st cu su with
  | some o => some [o]
  | none => match zk_s1 (zk_ev E).2.2.1 i len pc κ st cu su with
  | some o => some [o]
  | none => match zk_s2 (an == 1) nx i len pc κ st cu su with
    | some l => some l
    | none => match zk_s4 E.2.1 (zk_Kr (zk_ev E)) i len pc κ st cu su with
      | some o => some [o]
      | none => match zk_s5 E.1 E.2.1 E.2.2.1 (zk_Ke (zk_ev E)) (zk_Kr (zk_ev E)) (zk_Kk (zk_ev E) == 2) an i len pc κ st cu su with
        | some o => some [o]
        | none => match zk_s6 E.1 E.2.1 (zk_Ke (zk_ev E)) (zk_Kr (zk_ev E)) i len pc κ st cu su with
          | some o => some [o]
          | none => match zk_s8 E.2.1 i len pc κ st cu su with
            | some o => some [o]
            | none => match zk_s9 E.1 (zk_Ke (zk_ev E)) i len pc κ st cu su with
              | some o => some [o]
              | none => match zk_s10 (zk_ev E).2.2.1 i len pc κ st cu su with
                | some o => some [o]
                | none => zk_s7 E.1 E.2.2.1 E.2.2.2.1 E.2.2.2.2.1 E.2.2.2.2.2.1 (zk_Ke (zk_ev E)) (zk_Kr (zk_ev E)) an i len pc κ st cu su
/-- what the differences tell of the bounds -/
def zk_red1 (d : Nat × Nat × Int) (V : List zk_F) : List zk_F := match V[d.1]?, V[d.2.1]? with
  | some f, some g => if f.1 < 2 ∧ g.1 < 2 ∧ d.1 ≠ d.2.1 then (V.set d.1 (f.1, f.2.1, f.2.2.1, min f.2.2.2 (g.2.2.2 + d.2.2))).set d.2.1 (g.1, g.2.1, max g.2.2.1 (f.2.2.1 - d.2.2), g.2.2.2) else V
  | _, _ => V
def zk_redV : List (Nat × Nat × Int) → List zk_F → List zk_F
  | [], V => V
  | d :: D, V => zk_redV D (zk_red1 d V)
/-- a row's last entries: (place on the stack, first, how many): the cases one by one; (_, _, 0): the bounds are looked through; (k, _, 1001): k is another note that may be taken -/
def zk_spl (κ : zk_C) (st : List zk_S) (sp : List (Nat × Int × Nat)) : Option (List zk_C) := match sp.find? (fun p => p.2.2 != 1001) with
  | none => some [κ]
  | some p => if p.2.2 = 0 then some [(zk_redV κ.2.1 κ.1, κ.2)] else match st[p.1]? with
    | some q => if zk_kd κ.1 q = 0 ∧ κ.1[0]? = some (0, 0, 0, 0) ∧ p.2.1 ≤ zk_lw κ.1 q ∧ zk_hg κ.1 q < p.2.1 + p.2.2 then some ((List.range p.2.2).flatMap (fun (i : Nat) => zk_asm κ .eq q (0, p.2.1 + (i : Int)) false)) else none
    | none => none
def zk_als (an : Nat) (sp : List (Nat × Int × Nat)) : List Nat := an :: (sp.filter (fun p => p.2.2 == 1001)).map (fun p => p.1)
def zk_stpA (E : zk_Ev) (nx : Option (ClassFile.Instr × Nat)) (sp : List (Nat × Int × Nat)) (an : Nat) (i : ClassFile.Instr) (len pc : Nat) (κ : zk_C) (st : List zk_S) (cu su : Nat) : Option (List zk_O) := (zk_als an sp).findSome? (fun a => zk_stp E nx a i len pc κ st cu su)
def zk_isr (i : ClassFile.Instr) : Bool := match i with
  | .return_ => true
  | .ireturn => true
  | .lreturn => true
  | .areturn => true
  | _ => false
def zk_rp (κ : zk_C) (q : zk_S) (np j : Nat) : Option zk_S := if j = 99 then some (0, 0) else if j = np then some q else (κ.2.2.2.2.2.1.find? (fun z => z.1 == j)).map (fun z => (z.2, 0))
def zk_rcs (κ : zk_C) (q : zk_S) (np : Nat) (cs : List (Nat × Nat × Int)) : Bool := cs.all (fun c => match zk_rp κ q np c.1, zk_rp κ q np c.2.1 with
  | some a, some b => zk_leb κ a b c.2.2
  | _, _ => false)
def zk_rfit (V : List zk_F) : List zk_S → List zk_F → Bool
  | [], [] => true
  | q :: qs, f :: fs => zk_fits V q f && zk_rfit V qs fs
  | _, _ => false
/-- what bounds: a number, or an array's length -/
def zk_szq (ty : List zk_T) (κ : zk_C) (q : zk_S) : Option zk_S := if zk_kd κ.1 q = 0 then some q else match zk_typ ty κ q with
  | some (_, T) => if (T.1 = 1 ∨ T.1 = 2 ∨ T.1 = 3 ∨ T.1 = 4) ∧ T.2.2.1 ≤ 2147483647 then (match zk_fnd κ q.1 1000 with
    | some r => if zk_kd κ.1 r = 0 then some r else none
    | none => none) else none
  | none => none
def zk_rcr (ty : List zk_T) (κ : zk_C) (t : Nat) (fs : List zk_S) : Bool := zk_rel.all (fun r => r.1 != t || (match fs[r.2.1]?, fs[r.2.2]? with
  | some a, some b => (match zk_szq ty κ a, zk_szq ty κ b with
    | some x, some y => zk_leb κ x y 0
    | _, _ => false)
  | _, _ => false))
/-- a constructor's end: the object is as its type says -/
def zk_rct (ty : List zk_T) (K : zk_K) (κ : zk_C) : Bool := if zk_Kk K = 2 then (match κ.2.2.2.1, (zk_Kp K)[0]? with
  | [z], some f => κ.2.2.2.2.2.1.contains (0, z.1) && (match ty[f.2.1]? with
    | some T => T.1 == 0 && T.2.1 == z.2.1 && zk_rfit κ.1 z.2.2 T.2.2.2 && zk_rcr ty κ f.2.1 z.2.2
    | none => false)
  | _, _ => false) else true
def zk_rkd (r : Option FieldType) (i : ClassFile.Instr) : Option (Option Nat) := match r, i with
  | none, .return_ => some none
  | some .int, .ireturn => some (some 0)
  | some .boolean, .ireturn => some (some 0)
  | some .long, .lreturn => some (some 1)
  | some (.object _), .areturn => some (some 2)
  | some (.array _), .areturn => some (some 2)
  | _, _ => none
def zk_ral (K : zk_K) (κ : zk_C) (k : Option Nat) (st : List zk_S) (al : zk_A) : Bool := match k, st, al.1 with
  | none, [], none => zk_rcs κ (0, 0) (zk_Kp K).length al.2
  | some k, [q], some f => f.1 == k && zk_fits κ.1 q f && zk_rcs κ q (zk_Kp K).length al.2
  | _, _, _ => false
def zk_ret (ty : List zk_T) (K : zk_K) (i : ClassFile.Instr) (len : Nat) (κ : zk_C) (st : List zk_S) (cu su : Nat) : Bool :=
  len == 1 && decide (cu ≤ (zk_Kr K).2.2.1) && decide (su ≤ (zk_Kr K).2.2.2) && decide (κ.1[0]? = some (0, 0, 0, 0)) && zk_rct ty K κ
  && (match zk_rkd K.2.2.2.1 i with
    | some k => (zk_Ka K).any (zk_ral K κ k st) && (if K.2.2.2.1 = some .boolean then (match st with
      | [q] => decide (0 ≤ zk_lw κ.1 q) && decide (zk_hg κ.1 q ≤ 1)
      | _ => false) else true)
    | none => false)
def zk_go (E : zk_Ev) (CL : List zk_Ci) (AN : List zk_An) (M0 : Option zk_Lf) : Nat → Nat → zk_C → List zk_S → Nat → Nat → Bool
  | 0, _, _, _, _, _ => false
  | fuel + 1, pc, κ, st, cu, su => match CL.find? (fun q => q.1 == pc) with
    | none => false
    | some row => match zk_spl κ st row.2.2.2.2 with
      | none => false
      | some ks => ks.all (fun κ' => if zk_isr row.2.1 then zk_ret E.1 (zk_ev E) row.2.1 row.2.2.1 κ' st cu su else match zk_stpA E ((CL.find? (fun q => q.1 == pc + 1)).map (fun q => (q.2.1, q.2.2.1))) row.2.2.2.2 row.2.2.2.1 row.2.1 row.2.2.1 pc κ' st cu su with
        | none => false
        | some outs => outs.all (fun o => AN.any (fun A => A.1 == o.1 && (zk_mt o.2.1 o.2.2.1 o.2.2.2.1 o.2.2.2.2 A (zk_thv o.2.1 o.2.2.1 A A.2.1.1.length) && zk_fall o.2.1 M0 A (zk_thv o.2.1 o.2.2.1 A A.2.1.1.length)))
          || zk_go E CL AN M0 fuel o.1 o.2.1 o.2.2.1 o.2.2.2.1 o.2.2.2.2))
section ZK20
variable {p : Program} {l : Launch} {e : Env} {R : Room} {s : State} {m : MethodId} {args : Array Value} {below : List Frame} {meth : Method} {c : Code} {Q : State → Prop}
variable {cc : ByteArray} {w : zk_W} {u : zk_M} {Ts : List Jvm.Cond} {own : String}
theorem zk_rfit_ok {V : List zk_F} {N : List Int} {P : Nat → Option Nat} (hV : zk_all2 (zk_ok P) V N) : ∀ {qs : List zk_S} {fs : List zk_F} {vs : List Value}, zk_rfit V qs fs = true → zk_all2 (zk_sv V N) qs vs → zk_all2 (zk_fv P) fs vs
  | [], [], [], _, _ => trivial
  | q :: qs, f :: fs, v :: vs, h, hv => by
    unfold zk_rfit at h
    rw [Bool.and_eq_true] at h
    exact ⟨zk_fits_ok hV h.1 hv.1, zk_rfit_ok hV h.2 hv.2⟩
  | [], _ :: _, _, h, _ => by simp [zk_rfit] at h
  | _ :: _, [], _, h, _ => by simp [zk_rfit] at h
  | [], [], _ :: _, _, hv => hv.elim
  | _ :: _, _ :: _, [], _, hv => hv.elim
theorem zk_ok_hi {P : Nat → Option Nat} {f : zk_F} {n b : Int} (hk : f.1 < 2) (h : zk_ok P f n) (hb : n ≤ b) : zk_ok P (f.1, f.2.1, f.2.2.1, min f.2.2.2 b) n := by
  obtain ⟨k, t, lo, hi⟩ := f
  match k, hk, h with
  | 0, _, h => exact ⟨h.1, by have := h.2.1; dsimp only at this ⊢; omega, h.2.2⟩
  | 1, _, h => exact ⟨h.1, by have := h.2.1; dsimp only at this ⊢; omega, h.2.2⟩
theorem zk_ok_lo {P : Nat → Option Nat} {f : zk_F} {n b : Int} (hk : f.1 < 2) (h : zk_ok P f n) (hb : b ≤ n) : zk_ok P (f.1, f.2.1, max f.2.2.1 b, f.2.2.2) n := by
  obtain ⟨k, t, lo, hi⟩ := f
  match k, hk, h with
  | 0, _, h => exact ⟨by have := h.1; dsimp only at this ⊢; omega, h.2.1, h.2.2⟩
  | 1, _, h => exact ⟨by have := h.1; dsimp only at this ⊢; omega, h.2.1, h.2.2⟩
theorem zk_red1_ok {κ : zk_C} {N : List Int} {P : Nat → Option Nat} {F : Nat → va_E} {H : Heap} {locs : List Loc} {ls : Array Slot} (hG : zk_G w s u κ N P F H locs ls) {d : Nat × Nat × Int} (hd : ∃ n k, N[d.1]? = some n ∧ N[d.2.1]? = some k ∧ n ≤ k + d.2.2) : zk_G w s u (zk_red1 d κ.1, κ.2) N P F H locs ls ∧ zk_le κ.1 N (zk_red1 d κ.1) N := by
  obtain ⟨n, k, h1, h2, h3⟩ := hd
  unfold zk_red1
  split
  · rename_i f g hf hg
    split
    · rename_i hc
      obtain ⟨c1, c2, c3⟩ := hc
      obtain ⟨n', e1, e2⟩ := zk_all2_get hG.1 hf
      cases h1.symm.trans e1
      obtain ⟨k', e3, e4⟩ := zk_all2_get hG.1 hg
      cases h2.symm.trans e3
      have b1 := e2.iv c1
      have b2 := e4.iv c2
      have g1 := hG.set (f' := (f.1, f.2.1, f.2.2.1, min f.2.2.2 (g.2.2.2 + d.2.2))) hf (Or.inl rfl) (fun m hm hok => zk_ok_hi c1 hok (by rw [h1] at hm; cases hm; omega))
      have hg' : (κ.1.set d.1 (f.1, f.2.1, f.2.2.1, min f.2.2.2 (g.2.2.2 + d.2.2)))[d.2.1]? = some g := by rw [List.getElem?_set_ne c3]; exact hg
      have g2 := g1.set (f' := (g.1, g.2.1, max g.2.2.1 (f.2.2.1 - d.2.2), g.2.2.2)) hg' (Or.inl rfl) (fun m hm hok => zk_ok_lo c2 hok (by rw [h2] at hm; cases hm; omega))
      exact ⟨g2, (zk_le.set (f' := (f.1, f.2.1, f.2.2.1, min f.2.2.2 (g.2.2.2 + d.2.2))) hf (Or.inl rfl)).trans (zk_le.set (f' := (g.1, g.2.1, max g.2.2.1 (f.2.2.1 - d.2.2), g.2.2.2)) hg' (Or.inl rfl))⟩
    · exact ⟨hG, zk_le.rf⟩
  · exact ⟨hG, zk_le.rf⟩
theorem zk_redV_ok {N : List Int} {P : Nat → Option Nat} {F : Nat → va_E} {H : Heap} {locs : List Loc} {ls : Array Slot} : ∀ {D : List (Nat × Nat × Int)} {κ : zk_C}, zk_df N D → zk_G w s u κ N P F H locs ls → zk_G w s u (zk_redV D κ.1, κ.2) N P F H locs ls ∧ zk_le κ.1 N (zk_redV D κ.1) N
  | [], κ, _, hG => ⟨hG, zk_le.rf⟩
  | d :: D, κ, hD, hG => by
    obtain ⟨g1, g2⟩ := zk_red1_ok hG (hD d List.mem_cons_self)
    obtain ⟨g3, g4⟩ := zk_redV_ok (D := D) (fun q hq => hD q (List.mem_cons_of_mem _ hq)) g1
    exact ⟨g3, g2.trans g4⟩
theorem zk_spl_ok {κ : zk_C} {N : List Int} {P : Nat → Option Nat} {F : Nat → va_E} {H : Heap} {locs : List Loc} {ls : Array Slot} (hG : zk_G w s u κ N P F H locs ls) {st : List zk_S} {sv : List Value} (hS : zk_all2 (zk_sv κ.1 N) st sv) {sp : List (Nat × Int × Nat)} {ks : List zk_C} (h : zk_spl κ st sp = some ks) : ∃ κ' ∈ ks, zk_G w s u κ' N P F H locs ls ∧ zk_all2 (zk_sv κ'.1 N) st sv := by
  unfold zk_spl at h
  split at h
  · cases h
    exact ⟨κ, List.mem_singleton.mpr rfl, hG, hS⟩
  · rename_i p hp
    split at h
    · cases h
      obtain ⟨g1, g2⟩ := zk_redV_ok hG.2.1 hG
      exact ⟨_, List.mem_singleton.mpr rfl, g1, zk_sv_mono g2 hS⟩
    · split at h
      · rename_i q hq
        split at h
        · rename_i hc
          obtain ⟨c1, c2, c3, c4⟩ := hc
          cases h
          obtain ⟨v, e1, e2⟩ := zk_all2_get hS hq
          obtain ⟨n, rfl, rn, ln, hn, k, nk, en⟩ := e2.int hG.1 c1
          have n0 := zk_c0 hG.1 c2
          have k0 : zk_kd κ.1 ((0, p.2.1 + ((n - p.2.1).toNat : Nat)) : zk_S) = 0 := by unfold zk_kd; rw [c2]
          obtain ⟨κ', m1, m2, m3⟩ := zk_asm_ok (k := .eq) (r := (0, p.2.1 + ((n - p.2.1).toNat : Nat))) (sp := false) hG (c1.trans k0.symm) (by omega) nk n0 (by show k + q.2 = 0 + (p.2.1 + ((n - p.2.1).toNat : Nat)); omega)
          exact ⟨κ', List.mem_flatMap.mpr ⟨(n - p.2.1).toNat, List.mem_range.mpr (by omega), m1⟩, m2, zk_sv_mono m3 hS⟩
        · cases h
      · cases h
theorem zk_szq_ok {ty : List zk_T} (hw : w.1 = ty) {κ : zk_C} {N : List Int} {P : Nat → Option Nat} {F : Nat → va_E} {H : Heap} {locs : List Loc} {ls : Array Slot} (hG : zk_G w s u κ N P F H locs ls) {q x : zk_S} (h : zk_szq ty κ q = some x) {v : Value} (hv : zk_sv κ.1 N q v) : ∃ k, N[x.1]? = some k ∧ zk_sz P F v (k + x.2) := by
  unfold zk_szq at h
  split at h
  · rename_i hk
    cases h
    obtain ⟨i, e1, e2, e3, e4, k, e5, e6⟩ := hv.int hG.1 hk
    refine ⟨k, e5, ?_⟩
    rw [e1, ← e6]
    exact zk_i32 e2
  · split at h
    · rename_i t T hT
      split at h
      · rename_i hc
        split at h
        · rename_i r hr
          split at h
          · rename_i hk
            cases h
            obtain ⟨a, rfl, hna, hp, hwT⟩ := zk_typ_ok hw hG.1 hT hv
            obtain ⟨cA, y, fty, o1, o2, o3, o4, o5⟩ := zk_aarr hG.2.2.2.2.1 hp hwT hc.1
            obtain ⟨v', g1, g2⟩ := zk_fnd_ok hG.2.2.1 hr hna
            obtain ⟨j, f1, f2, f3, f4, k', f5, f6⟩ := g2.int hG.1 hk
            rw [o1] at g1
            have g1 : some (Value.int (Int32.ofNat y.1)) = some v' := g1
            cases g1
            have f1 := Value.int.inj f1
            have hy : y.1 ≤ 2147483647 := Nat.le_trans o3 hc.2
            rw [zk_n32 hy, zk_eq32 (by constructor <;> omega) f2] at f1
            exact ⟨k', f5, ⟨t, hp⟩, cA, y, o1, by omega, hy⟩
          · cases h
        · cases h
      · cases h
    · cases h
theorem zk_rcr_ok {κ : zk_C} {N : List Int} {P : Nat → Option Nat} {F : Nat → va_E} {H : Heap} {locs : List Loc} {ls : Array Slot} (hG : zk_G w s u κ N P F H locs ls) {ty : List zk_T} (hw : w.1 = ty) {t ci n : Nat} {qs : List zk_S} {fs : List Value} (h : zk_rcr ty κ t qs = true) (hv : zk_all2 (zk_sv κ.1 N) qs fs) (hn : P n = none) : zk_rl (zk_up P n (some t)) (zk_up F n (.inr (ci, fs))) t (.inr (ci, fs)) := by
  have hst : ∀ v m, zk_sz P F v m → zk_sz (zk_up P n (some t)) (zk_up F n (.inr (ci, fs))) v m := fun v m => zk_sz.step (fun b t' hb => ⟨t', zk_up_ext hn _ _ hb⟩) (fun b t' cA y hb hF => by
    have hne : b ≠ n := by
      intro e
      subst e
      rw [hn] at hb
      cases hb
    exact ⟨cA, y, by rw [zk_up_ne hne]; exact hF, rfl⟩)
  intro r hr ht
  have hc := List.all_eq_true.mp h r hr
  rw [Bool.or_eq_true, bne_iff_ne] at hc
  rcases hc with hc | hc
  · exact absurd ht hc
  · split at hc
    · rename_i a b ha hb
      split at hc
      · rename_i x y hx hy
        obtain ⟨v1, a1, a2⟩ := zk_all2_get hv ha
        obtain ⟨v2, b1, b2⟩ := zk_all2_get hv hb
        obtain ⟨k1, c1, c2⟩ := zk_szq_ok hw hG hx a2
        obtain ⟨k2, d1, d2⟩ := zk_szq_ok hw hG hy b2
        have := zk_leb_ok hG.1 hG.2.1 hc c1 d1
        exact ⟨v1, v2, _, _, a1, b1, hst _ _ c2, hst _ _ d2, by omega⟩
      · cases hc
    · cases hc
/-- what the contract's end asks is there -/
theorem zk_fin {K : zk_K} {B : zk_B} {ty : List zk_T} (hw : w.1 = ty) (hK : va_K w.2.2.1 w.2.1 [] s) {X0 : Nat → Prop} (hu : u.2.2.2.1 = zk_Ke K) (hX : ∀ q, u.1 q = none → ¬ (zk_Kk K = 2 ∧ u.2.2.1[0]? = some (q : Int)) → u.2.2.2.2.2.2 q) {κ : zk_C} {N : List Int} {P : Nat → Option Nat} {F : Nat → va_E} {H : Heap} {locs : List Loc} {ls : Array Slot} (hG : zk_G w s u κ N P F H locs ls) (hct : zk_rct ty K κ = true) {al : zk_A} (hal : al ∈ zk_Ka K) {rn : Int} (hrn : ∀ f, al.1 = some f → zk_ok P f rn ∧ f.1 ≤ 2) (hcs : ∀ q ∈ al.2, zk_num u.2.2.1 rn q.1 ≤ zk_num u.2.2.1 rn q.2.1 + q.2.2) (hB : (zk_Kk K ≠ 2 ∧ B u.1 u.2.1 u.2.2.1 P F rn) ∨ ∀ a b c d e f, B a b c d e f) (t : State) (ht : t.heap = H) (hW : s.WarmedH t.vm) : zk_postX w K B u.1 u.2.1 u.2.2.1 s t (.returned (al.1.map (fun f => zk_mk f.1 rn))) := by
  obtain ⟨h1, h2, h3, h4, h5, h6, h7, h8, h9, h10, h11, h12, h13⟩ := hG
  rw [hu] at h8
  have hbase : ∀ q, q < s.heap.size → q < w.2.2.2.1 → t.heap[q]? = s.heap[q]? := fun q g1 g2 => by rw [ht]; exact h9.2.1 q g1 (Nat.not_le.mpr g2)
  by_cases hk : zk_Kk K = 2
  · unfold zk_rct at hct
    rw [if_pos hk] at hct
    split at hct
    · rename_i z f hz hf
      rw [Bool.and_eq_true] at hct
      obtain ⟨c1, c2⟩ := hct
      split at c2
      · rename_i T hT
        simp only [Bool.and_eq_true, beq_iff_eq] at c2
        obtain ⟨⟨⟨c3, c4⟩, c5⟩, c6⟩ := c2
        have hG0 : zk_G w s u κ N P F H locs ls := ⟨h1, h2, h3, h4, h5, h6, h7, by rw [hu]; exact h8, h9, h10, h11, h12, h13⟩
        rw [hz] at h4
        obtain ⟨n, fs, r1, r2, r3, r4, r5, r6, -⟩ := h4
        obtain ⟨n', y1, y2⟩ := h10 _ (List.contains_iff_mem.mp c1)
        dsimp only at y1 y2
        rw [r1] at y1
        cases y1
        have hfv := zk_rfit_ok h1 c5 r6
        have hext := zk_up_ext (t := f.2.1) r4
        refine ⟨al, hal, rn, zk_up P n (some f.2.1), zk_up F n (.inr (z.2.1, fs)), rfl, fun g hg => ⟨(hrn g hg).1.ext hext, (hrn g hg).2⟩, hcs, ?_, va_K.moved hW.alike hK, fun a y ha => hext a y (h7 a y ha), fun a y ha => ?_, by rw [ht]; exact h9.1, hbase, fun q g1 g2 g3 => ?_, fun _ n2 f2 e1 e2 => ?_, hB.elim (fun z => absurd hk z.1) (fun z => z _ _ _ _ _ _)⟩
        · rw [ht]
          have hTw : w.1[f.2.1]? = some T := by rw [hw]; exact hT
          refine (h5.moved hW.alike).add r4 hTw ?_ r5 r3.1 (zk_rcr_ok hG0 hw c6 r6 r4)
          unfold zk_el
          rw [c3]
          exact ⟨fs, by rw [c4], zk_all2_imp (fun _ _ q => q.ext hext) hfv⟩
        · have hne : a ≠ n := by
            intro e
            subst e
            have := h7 a y ha
            rw [r4] at this
            cases this
          rw [zk_up_ne hne]
          exact h8 a y ha
        · obtain ⟨x1, x2⟩ := h13 q g1 (hX q g2 g3)
          have hne : q ≠ n := by
            intro e
            subst e
            exact g3 ⟨hk, y2⟩
          rw [zk_up_ne hne, ht]
          exact ⟨x1, x2⟩
        · rw [y2] at e1
          have : n2 = n := by cases e1; omega
          subst this
          rw [hf] at e2
          cases e2
          exact zk_up_self
      · cases c2
    · cases hct
  · refine ⟨al, hal, rn, P, F, rfl, hrn, hcs, by rw [ht]; exact h5.moved hW.alike, va_K.moved hW.alike hK, h7, h8, by rw [ht]; exact h9.1, hbase, fun q g1 g2 g3 => ?_, fun h => absurd h hk, hB.elim (fun z => z.2) (fun z => z _ _ _ _ _ _)⟩
    rw [ht]
    exact h13 q g1 (hX q g2 g3)
theorem zk_rcs_ok {κ : zk_C} {N : List Int} {P : Nat → Option Nat} {F : Nat → va_E} {H : Heap} {locs : List Loc} {ls : Array Slot} (hG : zk_G w s u κ N P F H locs ls) (h0 : κ.1[0]? = some (0, 0, 0, 0)) {q : zk_S} {rn : Int} (hq : ∃ k, N[q.1]? = some k ∧ rn = k + q.2) {np : Nat} (hnp : np = u.2.2.1.length) {cs : List (Nat × Nat × Int)} (h : zk_rcs κ q np cs = true) : ∀ c ∈ cs, zk_num u.2.2.1 rn c.1 ≤ zk_num u.2.2.1 rn c.2.1 + c.2.2 := by
  have one : ∀ {j : Nat} {a : zk_S}, zk_rp κ q np j = some a → ∃ k, N[a.1]? = some k ∧ zk_num u.2.2.1 rn j = k + a.2 := by
    intro j a ha
    unfold zk_rp at ha
    unfold zk_num
    split at ha
    · rename_i h9
      cases ha
      rw [if_pos h9]
      exact ⟨0, zk_c0 hG.1 h0, rfl⟩
    · rename_i h9
      rw [if_neg h9]
      split at ha
      · rename_i hj
        cases ha
        rw [if_pos (by omega)]
        exact hq
      · rename_i hj
        rw [if_neg (by omega)]
        obtain ⟨z, e1, e2⟩ := Option.map_eq_some_iff.mp ha
        cases e2
        obtain ⟨n, y1, y2⟩ := hG.2.2.2.2.2.2.2.2.2.1 z (List.mem_of_find?_eq_some e1)
        have e3 := List.find?_some e1
        have e3 : z.1 = j := by simpa using e3
        refine ⟨n, y1, ?_⟩
        rw [List.getD_eq_getElem?_getD, ← e3, y2]
        show n = n + 0
        omega
  intro c hc
  have := List.all_eq_true.mp h c hc
  split at this
  · rename_i a b ha hb
    obtain ⟨k1, e1, e2⟩ := one ha
    obtain ⟨k2, e3, e4⟩ := one hb
    have := zk_leb_ok hG.1 hG.2.1 this e1 e3
    omega
  · cases this
theorem zk_retX_ok (hx : p.tables.exec = Jvm.exec) (hb : c.code = cc) {K : zk_K} {B : zk_B} {ty : List zk_T} (hw : w.1 = ty) (hK : va_K w.2.2.1 w.2.1 [] s) (hlocks : meth.locks = false) (hr : meth.sig.returnType = K.2.2.2.1) (hu : u.2.2.2.1 = zk_Ke K) (hnp : (zk_Kp K).length = u.2.2.1.length) (hX : ∀ q, u.1 q = none → ¬ (zk_Kk K = 2 ∧ u.2.2.1[0]? = some (q : Int)) → u.2.2.2.2.2.2 q)
    (hQ : Q = MQ below (fun _ st o t => zk_postX w K B u.1 u.2.1 u.2.2.1 st t o) args s (zk_Kr K).2.2.1 (zk_Kr K).2.2.2 (fun q => w.2.2.2.1 ≤ q)) {i : ClassFile.Instr} {len pc : Nat} {κ : zk_C} {st : List zk_S} {cu su : Nat} (h : zk_ret ty K i len κ st cu su = true) (hdg : decode cc pc = .ok (i, len)) {N : List Int} {P : Nat → Option Nat} {F : Nat → va_E} {H : Heap} {locs : List Loc} {ls : Array Slot} {sv : List Value} (hG : zk_G w s u κ N P F H locs ls) (hS : zk_all2 (zk_sv κ.1 N) st sv) (hB : ∀ rn : Int, (∀ (q : zk_S) (k : Int), st = [q] → N[q.1]? = some k → rn = k + q.2) → (zk_Kk K ≠ 2 ∧ B u.1 u.2.1 u.2.2.1 P F rn) ∨ ∀ a b c d e f, B a b c d e f) : W p l e R s m args below meth c H locs cu su Q (F0 m pc ls sv) := by
  unfold zk_ret at h
  simp only [Bool.and_eq_true, decide_eq_true_eq, beq_iff_eq] at h
  obtain ⟨⟨⟨⟨⟨rfl, c1⟩, c2⟩, c3⟩, c4⟩, h⟩ := h
  split at h
  · rename_i k hk
    rw [Bool.and_eq_true] at h
    obtain ⟨d1, d2⟩ := h
    obtain ⟨al, a1, a2⟩ := List.any_eq_true.mp d1
    refine W.widen c1 c2 ?_
    rw [hQ]
    have hL := hG.2.2.2.2.2.2.2.2.1.2.2
    have fin : ∀ {rn : Int}, ((zk_Kk K ≠ 2 ∧ B u.1 u.2.1 u.2.2.1 P F rn) ∨ ∀ a b c d e f, B a b c d e f) → (∀ f, al.1 = some f → zk_ok P f rn ∧ f.1 ≤ 2) → (∀ q ∈ al.2, zk_num u.2.2.1 rn q.1 ≤ zk_num u.2.2.1 rn q.2.1 + q.2.2) → ∀ t : State, t.heap = H → s.WarmedH t.vm → zk_postX w K B u.1 u.2.1 u.2.2.1 s t (.returned (al.1.map (fun f => zk_mk f.1 rn))) := fun g0 g1 g2 t ht hW => zk_fin (X0 := fun _ => True) hw hK hu hX hG c4 a1 g1 g2 g0 t ht hW
    unfold zk_ral at a2
    split at a2
    · rename_i hal
      match sv, hS with
      | [], _ =>
        have g := fin (rn := 0) (hB 0 (fun q k h => by cases h)) (fun f hf => by rw [hal] at hf; cases hf) (zk_rcs_ok hG c3 ⟨0, zk_c0 hG.1 c3, rfl⟩ hnp a2)
        rw [hal] at g
        unfold zk_rkd at hk
        split at hk
        · rename_i hr0
          rw [hr0] at hr
          exact W.vret hx hb hr (fun t ht hW => g t ht hW) hL hdg hlocks
        all_goals cases hk
    · rename_i k' q f hal
      simp only [Bool.and_eq_true, beq_iff_eq] at a2
      obtain ⟨⟨b1, b2⟩, b3⟩ := a2
      match sv, hS with
      | [v], hS =>
        obtain ⟨g0, n, y1, y2, y3, y4⟩ := hS.1
        obtain ⟨z1, z2, z3⟩ := zk_fits_n hG.1 b2 y1 y2 y3
        rw [← z2] at y4
        have g := fin (rn := n + q.2) (hB _ (fun q' k' h1 h2 => by cases h1; rw [y2] at h2; cases h2; rfl)) (fun f' hf' => by
          rw [hal] at hf'
          cases hf'
          refine ⟨z1, ?_⟩
          unfold zk_rkd at hk
          split at hk <;> cases hk <;> omega) (zk_rcs_ok hG c3 ⟨n, y2, rfl⟩ hnp b3)
        rw [hal, Option.map_some] at g
        unfold zk_rkd at hk
        split at hk
        · cases hk
        · rename_i hr0
          cases hk
          rw [b1] at y4 g
          subst y4
          rw [hr0] at hr
          exact W.iret hx hb hr (fun t ht hW => g t ht hW) hL hdg hlocks
        · rename_i hr0
          cases hk
          rw [b1] at y4 g
          subst y4
          rw [hr0] at hr
          rw [if_pos hr0] at d2
          simp only [Bool.and_eq_true, decide_eq_true_eq] at d2
          have hn : narrow .boolean (.int (Int32.ofInt (n + q.2))) = .int (Int32.ofInt (n + q.2)) := by
            have kq : zk_kd κ.1 q = 0 := by unfold zk_kd; rw [y1]; show g0.1 = 0; omega
            obtain ⟨m', e1, e2, e3, e4, -⟩ := zk_sv.int hG.1 hS.1 kq
            have e1 := Value.int.inj e1
            rw [e1]
            have : m' = 0 ∨ m' = 1 := by omega
            rcases this with rfl | rfl <;> decide
          exact W.zret hx hb hr hn (fun t ht hW => g t ht hW) hL hdg hlocks
        · rename_i hr0
          cases hk
          rw [b1] at y4 g
          subst y4
          rw [hr0] at hr
          exact W.lret hx hb hr (fun t ht hW => g t ht hW) hL hdg hlocks
        · rename_i C hr0
          cases hk
          rw [b1] at y4 g
          subst y4
          rw [hr0] at hr
          have hv : zk_mk 2 (n + q.2) = .null ∨ ∃ a, zk_mk 2 (n + q.2) = .ref a := by
            rw [zk_mk_ref (Nat.le_refl _)]
            split
            · exact Or.inl rfl
            · exact Or.inr ⟨_, rfl⟩
          exact W.aret hx hb hr (Or.inl ⟨_, rfl⟩) hv (fun t ht hW => g t ht hW) hL hdg hlocks
        · rename_i C hr0
          cases hk
          rw [b1] at y4 g
          subst y4
          rw [hr0] at hr
          have hv : zk_mk 2 (n + q.2) = .null ∨ ∃ a, zk_mk 2 (n + q.2) = .ref a := by
            rw [zk_mk_ref (Nat.le_refl _)]
            split
            · exact Or.inl rfl
            · exact Or.inr ⟨_, rfl⟩
          exact W.aret hx hb hr (Or.inr ⟨_, rfl⟩) hv (fun t ht hW => g t ht hW) hL hdg hlocks
        · cases hk
    · cases a2
  · cases h
theorem zk_ret_ok (hx : p.tables.exec = Jvm.exec) (hb : c.code = cc) {K : zk_K} {ty : List zk_T} (hw : w.1 = ty) (hK : va_K w.2.2.1 w.2.1 [] s) (hlocks : meth.locks = false) (hr : meth.sig.returnType = K.2.2.2.1) (hu : u.2.2.2.1 = zk_Ke K) (hnp : (zk_Kp K).length = u.2.2.1.length) (hX : ∀ q, u.1 q = none → ¬ (zk_Kk K = 2 ∧ u.2.2.1[0]? = some (q : Int)) → u.2.2.2.2.2.2 q)
    (hQ : Q = MQ below (fun _ st o t => zk_post w K u.1 u.2.1 u.2.2.1 st t o) args s (zk_Kr K).2.2.1 (zk_Kr K).2.2.2 (fun q => w.2.2.2.1 ≤ q)) {i : ClassFile.Instr} {len pc : Nat} {κ : zk_C} {st : List zk_S} {cu su : Nat} (h : zk_ret ty K i len κ st cu su = true) (hdg : decode cc pc = .ok (i, len)) : zk_J p l e R s m args below meth c Q w u κ st cu su pc := fun N P F H locs ls sv hG hS => zk_retX_ok hx hb hw hK hlocks hr hu hnp hX (B := zk_tB) hQ h hdg hG hS (fun _ _ => Or.inr (fun _ _ _ _ _ _ => trivial))
end ZK20
end
section
/-! part 21: the run that is looked through holds -/
/-- all that a method's run needs from outside -/
def zk_ctx (l : Launch) (R : Room) (s : State) (m : MethodId) (args : Array Value) (meth : Method) (c : Code) (w : zk_W) (u : zk_M) (Ts : List Jvm.Cond) (own : String) (TB : List Jvm.Cond) (mn : Nat → MethodName) (E : zk_Ev) : Prop :=
  (c.maxLocals = u.2.2.2.2.2.1 ∧ (zk_ev E).2.2.1 = u.2.2.2.2.2.1 ∧ u.2.2.2.1 = zk_Ke (zk_ev E)) ∧ (∀ x ∈ Ts, x.before args s = true) ∧ zk_cls w Ts ∧ s.vm.findClass own = some m.cls ∧ va_K w.2.2.1 w.2.1 [] s ∧ w.1 = E.1 ∧ w.2.2.2.1 ≤ s.heap.size ∧ (∀ q ∈ E.2.1, zk_lkok w s args own q) ∧ zk_dvok w E.2.2.1 ∧ (zk_Kk (zk_ev E) = 2 → meth.name = "<init>") ∧ ((zk_Kr (zk_ev E)).1 ≤ R.frames ∧ (zk_Kr (zk_ev E)).2.1 ≤ R.locals ∧ (zk_Kr (zk_ev E)).2.2.1 ≤ R.cells ∧ (zk_Kr (zk_ev E)).2.2.2 ≤ R.slots) ∧ GoodIn Ts TB ∧ (∀ (j : Nat) (K : zk_K), E.2.2.2.1[j]? = some K → zk_met l w E.2.2.1 TB K ∧ zk_cok w TB K) ∧ (∀ (j : Nat) (K : zk_K) (k : Nat), E.2.2.2.1[j]? = some K → E.2.2.2.2.1[j]? = some k → K.1 = mn k) ∧ (∀ q ∈ E.2.2.2.2.2.1, zk_lc s args own q.1 q.2.1 (mn q.2.2)) ∧ (meth.locks = false ∧ meth.sig.returnType = (zk_ev E).2.2.2.1 ∧ (zk_Kp (zk_ev E)).length = u.2.2.1.length) ∧ (∀ q, u.1 q = none → ¬ (zk_Kk (zk_ev E) = 2 ∧ u.2.2.1[0]? = some (q : Int)) → u.2.2.2.2.2.2 q) ∧ zk_stab w ∧ w.2.2.2.2.2 s ∧ (∀ t a, w.2.2.2.2.1 t a → u.1 a = some t)
section ZK21
variable {p : Program} {l : Launch} {e : Env} {R : Room} {s : State} {m : MethodId} {args : Array Value} {below : List Frame} {meth : Method} {c : Code} {Q : State → Prop}
variable {cc : ByteArray} {w : zk_W} {u : zk_M} {Ts : List Jvm.Cond} {own : String}
theorem zk_stp_ok (hx : p.tables.exec = Jvm.exec) (hb : c.code = cc) {TB : List Jvm.Cond} {mn : Nat → MethodName} {E : zk_Ev} (hE : zk_ctx l R s m args meth c w u Ts own TB mn E) {nx : Option (ClassFile.Instr × Nat)} {an : Nat} {i : ClassFile.Instr} {len pc : Nat} {κ : zk_C} {st : List zk_S} {cu su : Nat} {outs : List zk_O} (h : zk_stp E nx an i len pc κ st cu su = some outs) (hdg : decode cc pc = .ok (i, len)) (hnx : ∀ z, nx = some z → (i = .lcmp ∨ i = .iaload) → decode cc (pc + 1) = .ok z) (kk : ∀ o ∈ outs, zk_J p l e R s m args below meth c Q w u o.2.1 o.2.2.1 o.2.2.2.1 o.2.2.2.2 o.1) : zk_J p l e R s m args below meth c Q w u κ st cu su pc := by
  obtain ⟨⟨e1, e2, e3⟩, e4, e5, e6, e7, e8, e9, e10, e11, e12, e13, e14, e15, e16, e17, -, -, y1, y2, y3⟩ := hE
  unfold zk_stp at h
  rw [e2, ← e3] at h
  split at h
  · rename_i o ho
    cases h
    exact zk_s11_ok hx hb e8 ho hdg hnx (kk o (List.mem_singleton.mpr rfl))
  · split at h
    · rename_i o ho
      cases h
      exact zk_s1_ok hx hb ho hdg (kk o (List.mem_singleton.mpr rfl))
    · split at h
      · rename_i o ho
        cases h
        exact zk_s2_ok hx hb ho hdg (fun z h1 h2 => hnx z h1 (Or.inl h2)) kk
      · split at h
        · rename_i o ho
          cases h
          exact zk_s4_ok hx hb e1 e6 e10 e13 ho hdg (kk o (List.mem_singleton.mpr rfl))
        · split at h
          · rename_i o ho
            cases h
            exact zk_s5_ok hx hb e4 e5 e6 e7 e8 e9 e10 e11 (fun q => e12 (by simpa using q)) e13 ho hdg (kk o (List.mem_singleton.mpr rfl))
          · split at h
            · rename_i o ho
              cases h
              exact zk_s6_ok hx hb e1 e6 e8 e10 e13 ho hdg (kk o (List.mem_singleton.mpr rfl))
            · split at h
              · rename_i o ho
                cases h
                exact zk_s8_ok hx hb e6 y3 e10 ho hdg (kk o (List.mem_singleton.mpr rfl))
              · split at h
                · rename_i o ho
                  cases h
                  exact zk_s9_ok hx hb e7 e8 ho hdg (kk o (List.mem_singleton.mpr rfl))
                · split at h
                  · rename_i o ho
                    cases h
                    exact zk_s10_ok hx hb ho hdg (kk o (List.mem_singleton.mpr rfl))
                  · exact zk_s7_ok hx hb y1 y2 y3 e1 e4 e6 e7 e8 e9 e14 e15 e16 e17 e13 h hdg kk
/-- where a marked place is come to: it holds there, where the measure fell -/
def zk_arr (p : Program) (l : Launch) (e : Env) (R : Room) (s : State) (m : MethodId) (args : Array Value) (below : List Frame) (meth : Method) (c : Code) (Q : State → Prop) (w : zk_W) (u : zk_M) (M0 : Option zk_Lf) (A : zk_An) : Prop := ∀ N' : List Int, N'.length = A.2.1.1.length → (∀ M, M0 = some M → A.2.2.2.2.2.1 + zk_lev N' A.2.2.2.2.2.2 + 1 ≤ M.1 + zk_lev u.2.2.2.2.1 M.2) → zk_J p l e R s m args below meth c Q w (u.1, u.2.1, u.2.2.1, u.2.2.2.1, N', u.2.2.2.2.2) A.2.1 A.2.2.1 A.2.2.2.1 A.2.2.2.2.1 A.1
theorem zk_go_ok (hx : p.tables.exec = Jvm.exec) (hb : c.code = cc) {TB : List Jvm.Cond} {mn : Nat → MethodName} {E : zk_Ev} (hE : zk_ctx l R s m args meth c w u Ts own TB mn E)
    (hQ : Q = MQ below (fun _ st o t => zk_post w (zk_ev E) u.1 u.2.1 u.2.2.1 st t o) args s (zk_Kr (zk_ev E)).2.2.1 (zk_Kr (zk_ev E)).2.2.2 (fun q => w.2.2.2.1 ≤ q) ∨ zk_Ka (zk_ev E) = []) {CL : List zk_Ci} (hCL : ∀ q ∈ CL, decode cc q.1 = .ok (q.2.1, q.2.2.1)) {AN : List zk_An} {M0 : Option zk_Lf} (hM : ∀ M, M0 = some M → M.2.all (fun t => decide (t.2 < u.2.2.2.2.1.length)) = true) (hAN : ∀ A ∈ AN, zk_arr p l e R s m args below meth c Q w u M0 A) : ∀ {fuel pc : Nat} {κ : zk_C} {st : List zk_S} {cu su : Nat}, zk_go E CL AN M0 fuel pc κ st cu su = true → zk_J p l e R s m args below meth c Q w u κ st cu su pc
  | 0, _, _, _, _, _, h => by simp [zk_go] at h
  | fuel + 1, pc, κ, st, cu, su, h => by
    unfold zk_go at h
    split at h
    · cases h
    · rename_i row hrow
      have hmem := List.mem_of_find?_eq_some hrow
      have hpc := List.find?_some hrow
      have hpc : row.1 = pc := by simpa using hpc
      have hdg := hCL row hmem
      rw [hpc] at hdg
      split at h
      · cases h
      · rename_i ks hks
        intro N P F H locs ls sv hG hS
        obtain ⟨κ', k1, k2, k3⟩ := zk_spl_ok hG hS hks
        have h := List.all_eq_true.mp h κ' k1
        split at h
        · obtain ⟨⟨e1, e2, e3⟩, e4, e5, e6, e7, e8, e9, e10, e11, e12, e13, e14, e15, e16, e17, ⟨e18, e19, e20⟩, e21, -⟩ := hE
          rcases hQ with hQ | hQ
          · exact zk_ret_ok hx hb e8 e7 e18 e19 e3 e20 e21 hQ h hdg N P F H locs ls sv k2 k3
          · exfalso
            unfold zk_ret at h
            rw [hQ] at h
            simp only [List.any_nil, Bool.false_and, Bool.and_eq_true] at h
            have h := h.2
            split at h <;> cases h
        · split at h
          · cases h
          · rename_i outs houts
            obtain ⟨an', -, houts⟩ := List.exists_of_findSome?_eq_some houts
            have hnx : ∀ z, (CL.find? (fun q => q.1 == pc + 1)).map (fun q => (q.2.1, q.2.2.1)) = some z → (row.2.1 = .lcmp ∨ row.2.1 = .iaload) → decode cc (pc + 1) = .ok z := by
              intro z hz _
              obtain ⟨r2, y1, y2⟩ := Option.map_eq_some_iff.mp hz
              have y3 := hCL r2 (List.mem_of_find?_eq_some y1)
              have y4 := List.find?_some y1
              have y4 : r2.1 = pc + 1 := by simpa using y4
              rw [y4] at y3
              rw [y3, ← y2]
            refine zk_stp_ok hx hb hE houts hdg hnx (fun o ho => ?_) N P F H locs ls sv k2 k3
            have h := List.all_eq_true.mp h o ho
            rcases Bool.or_eq_true _ _ ▸ h with h | h
            · obtain ⟨A, hA, h⟩ := List.any_eq_true.mp h
              rw [Bool.and_eq_true, Bool.and_eq_true, beq_iff_eq] at h
              obtain ⟨hA1, h⟩ := h
              intro N2 P2 F2 H2 locs2 ls2 sv2 hG2 hS2
              obtain ⟨g1, g2, g3, g4, g5⟩ := zk_mt_ok hG2 hS2 h.1
              rw [← hA1]
              refine W.widen g3 g4 ?_
              refine hAN A hA _ (by rw [List.length_map]; exact g5) (fun M hMe => ?_) _ P2 F2 H2 locs2 ls2 sv2 g1 g2
              have hv : zk_vfits o.2.1.1 (zk_thv o.2.1 o.2.2.1 A A.2.1.1.length) A.2.1.1 = true := by
                have := h.1
                unfold zk_mt at this
                simp only [Bool.and_eq_true] at this
                exact this.1.1.1.1.1.1.1.1.1
              have hf := h.2
              rw [hMe] at hf
              have := zk_fall_ok hG2 hv hf
              rw [zk_lev_pre hG2.2.2.2.2.2.2.2.2.2.2.2.1 (hM M hMe)] at this
              exact this
            · exact zk_go_ok hx hb hE hQ hCL hM hAN h
end ZK21
end
section
/-! part 22: a method keeps its contract -/
def zk_larg : Nat → Nat → List zk_F → List (Nat × zk_S)
  | _, _, [] => []
  | i, j, f :: fs => (i, (j, 0)) :: zk_larg (if f.1 = 1 then i + 2 else i + 1) (j + 1) fs
def zk_lsz : List zk_F → Nat
  | [] => 0
  | f :: fs => (if f.1 = 1 then 2 else 1) + zk_lsz fs
theorem zk_mk_cat {k : Nat} {n : Int} : (zk_mk k n).category = if k = 1 then 2 else 1 := by
  match k with
  | 0 => rfl
  | 1 => rfl
  | k + 2 =>
    rw [zk_mk_ref (by omega), if_neg (c := k + 2 = 1) (by omega)]
    split <;> rfl
theorem zk_lsz_ok : ∀ {fs : List zk_F} {ps : List Int}, fs.length = ps.length → (lg_sl (zk_avs fs ps)).length = zk_lsz fs
  | [], [], _ => rfl
  | f :: fs, n :: ps, h => by
    have ih := zk_lsz_ok (fs := fs) (ps := ps) (by simpa using h)
    have e : lg_sl (zk_avs (f :: fs) (n :: ps)) = (if (zk_mk f.1 n).category = 2 then [Slot.val (zk_mk f.1 n), .second] else [.val (zk_mk f.1 n)]) ++ lg_sl (zk_avs fs ps) := rfl
    rw [e, List.length_append, ih, zk_mk_cat]
    show _ = (if f.1 = 1 then 2 else 1) + zk_lsz fs
    by_cases hf : f.1 = 1
    · rw [if_pos hf, if_pos rfl]
      rfl
    · rw [if_neg hf, if_neg (by decide)]
      rfl
  | [], _ :: _, h => by simp at h
  | _ :: _, [], h => by simp at h
theorem zk_larg_ok {V : List zk_F} {N : List Int} {P : Nat → Option Nat} : ∀ {fs : List zk_F} {ps : List Int} {i j : Nat}, zk_all2 (zk_ok P) fs ps → (∀ (t : Nat) (f : zk_F), fs[t]? = some f → V[j + t]? = some f) → (∀ (t : Nat) (n : Int), ps[t]? = some n → N[j + t]? = some n) → zk_all2 (zk_lr V N) (zk_larg i j fs) (lv_args i (zk_avs fs ps))
  | [], [], _, _, _, _, _ => trivial
  | f :: fs, n :: ps, i, j, h, hV, hN => by
    have e : lv_args i (zk_avs (f :: fs) (n :: ps)) = (i, zk_mk f.1 n) :: lv_args (if (zk_mk f.1 n).category = 2 then i + 2 else i + 1) (zk_avs fs ps) := rfl
    have e2 : (if (zk_mk f.1 n).category = 2 then i + 2 else i + 1) = (if f.1 = 1 then i + 2 else i + 1) := by
      rw [zk_mk_cat]
      by_cases hf : f.1 = 1
      · rw [if_pos hf, if_pos hf, if_pos rfl]
      · rw [if_neg hf, if_neg hf, if_neg (by decide)]
    rw [e, e2]
    refine ⟨⟨rfl, f, n, by simpa using hV 0 f rfl, by simpa using hN 0 n rfl, ?_, ?_⟩, zk_larg_ok h.2 (fun t g hg => ?_) (fun t g hg => ?_)⟩
    · show zk_rg f.1 (n + 0)
      rw [Int.add_zero]
      exact h.1.rg
    · show zk_mk f.1 n = zk_mk f.1 (n + 0)
      rw [Int.add_zero]
    · have := hV (t + 1) g (by simpa using hg)
      rw [show j + 1 + t = j + (t + 1) by omega]
      exact this
    · have := hN (t + 1) g (by simpa using hg)
      rw [show j + 1 + t = j + (t + 1) by omega]
      exact this
  | [], _ :: _, _, _, h, _, _ => h.elim
  | _ :: _, [], _, _, h, _, _ => h.elim
def zk_V0 : List zk_F := [(0, 0, 0, 0), (1, 0, 0, 0), (2, 0, -1, -1)]
def zk_rw0 (E : zk_Ev) : List (Nat × Nat × List zk_S) := if zk_Kk (zk_ev E) = 2 then (match (zk_Kp (zk_ev E))[0]? with
  | some f => (match E.1[f.2.1]? with
    | some T => [(3, T.2.1, E.2.2.1.getD T.2.1 [])]
    | none => [])
  | none => []) else []
def zk_k0 (E : zk_Ev) : zk_C := (zk_V0 ++ zk_Kp (zk_ev E), [], [], zk_rw0 E, zk_larg 0 3 (zk_Kp (zk_ev E)), (List.range (zk_Kp (zk_ev E)).length).map (fun j => (j, 3 + j)), [])
def zk_e0b (E : zk_Ev) : Bool := decide (zk_lsz (zk_Kp (zk_ev E)) ≤ (zk_ev E).2.2.1) && (if zk_Kk (zk_ev E) = 2 then E.2.2.1.all (fun ds => ds.all (fun q => decide (q.1 ≤ 2) && q.2 == 0)) else true)
/-- the whole look through a method -/
def zk_chk (E : zk_Ev) (CL : List zk_Ci) (AN : List zk_An) (fuel : Nat) : Bool := zk_e0b E && zk_go E CL AN none fuel 0 (zk_k0 E) [] 0 0
  && AN.all (fun A => A.2.2.2.2.2.2.all (fun t => decide (t.2 < A.2.1.1.length)) && (match zk_lbd A.2.1.1 A.2.2.2.2.2.2 with
    | some b => decide (0 ≤ A.2.2.2.2.2.1 + b)
    | none => false) && zk_go E CL AN (some A.2.2.2.2.2) fuel A.1 A.2.1 A.2.2.1 A.2.2.2.1 A.2.2.2.2.1)
theorem zk_pre_eq {N N' : List Int} (h : ∀ (i : Nat) (n : Int), N'[i]? = some n → N[i]? = some n) (hl : N.length = N'.length) : N = N' := by
  apply List.ext_getElem? fun i => ?_
  cases hi : N'[i]? with
  | some n => exact h i n hi
  | none =>
    rw [List.getElem?_eq_none_iff] at hi ⊢
    omega
theorem zk_dval_sv {E : zk_Ev} {N : List Int} (hN : N[0]? = some 0 ∧ N[1]? = some 0 ∧ N[2]? = some (-1)) : ∀ {ds : List zk_S}, ds.all (fun q => decide (q.1 ≤ 2) && q.2 == 0) = true → zk_all2 (zk_sv (zk_V0 ++ zk_Kp (zk_ev E)) N) ds (ds.map zk_dval)
  | [], _ => trivial
  | q :: ds, h => by
    simp only [List.all_cons, Bool.and_eq_true, decide_eq_true_eq, beq_iff_eq] at h
    obtain ⟨⟨d1, d2⟩, d3⟩ := h
    refine ⟨?_, zk_dval_sv hN (by simpa using d3)⟩
    obtain ⟨qk, qc⟩ := q
    dsimp only at d1 d2
    subst d2
    have hq : qk = 0 ∨ qk = 1 ∨ qk = 2 := by omega
    rcases hq with rfl | rfl | rfl
    · exact ⟨(0, 0, 0, 0), 0, rfl, hN.1, ⟨by decide, by decide⟩, rfl⟩
    · exact ⟨(1, 0, 0, 0), 0, rfl, hN.2.1, ⟨by decide, by decide⟩, rfl⟩
    · exact ⟨(2, 0, -1, -1), -1, rfl, hN.2.2, trivial, rfl⟩
section ZK22
variable {p : Program} {l : Launch} {e : Env} {R : Room} {s : State} {m : MethodId} {args : Array Value} {below : List Frame} {meth : Method} {c : Code} {Q : State → Prop}
variable {cc : ByteArray} {w : zk_W} {u : zk_M} {Ts : List Jvm.Cond} {own : String}
/-- the loops: by the measures all the marked places hold -/
theorem zk_arrs (hx : p.tables.exec = Jvm.exec) (hb : c.code = cc) {TB : List Jvm.Cond} {mn : Nat → MethodName} {E : zk_Ev} (hE : ∀ N', zk_ctx l R s m args meth c w (u.1, u.2.1, u.2.2.1, u.2.2.2.1, N', u.2.2.2.2.2) Ts own TB mn E)
    (hQ : Q = MQ below (fun _ st o t => zk_post w (zk_ev E) u.1 u.2.1 u.2.2.1 st t o) args s (zk_Kr (zk_ev E)).2.2.1 (zk_Kr (zk_ev E)).2.2.2 (fun q => w.2.2.2.1 ≤ q) ∨ zk_Ka (zk_ev E) = []) {CL : List zk_Ci} (hCL : ∀ q ∈ CL, decode cc q.1 = .ok (q.2.1, q.2.2.1)) {AL AN : List zk_An} {fuel : Nat} (hAN : ∀ A ∈ AN, A ∈ AL ∨ ∀ N' : List Int, N'.length = A.2.1.1.length → zk_J p l e R s m args below meth c Q w (u.1, u.2.1, u.2.2.1, u.2.2.2.1, N', u.2.2.2.2.2) A.2.1 A.2.2.1 A.2.2.2.1 A.2.2.2.2.1 A.1) (h : AL.all (fun A => A.2.2.2.2.2.2.all (fun t => decide (t.2 < A.2.1.1.length)) && (match zk_lbd A.2.1.1 A.2.2.2.2.2.2 with
    | some b => decide (0 ≤ A.2.2.2.2.2.1 + b)
    | none => false) && zk_go E CL AN (some A.2.2.2.2.2) fuel A.1 A.2.1 A.2.2.1 A.2.2.2.1 A.2.2.2.2.1) = true) : ∀ (k : Nat), ∀ A ∈ AL, ∀ N' : List Int, N'.length = A.2.1.1.length → A.2.2.2.2.2.1 + zk_lev N' A.2.2.2.2.2.2 < k → zk_J p l e R s m args below meth c Q w (u.1, u.2.1, u.2.2.1, u.2.2.2.1, N', u.2.2.2.2.2) A.2.1 A.2.2.1 A.2.2.2.1 A.2.2.2.2.1 A.1
  | 0, A, hA, N', hl, hk => by
    have hc := List.all_eq_true.mp h A hA
    simp only [Bool.and_eq_true] at hc
    obtain ⟨⟨c1, c2⟩, c3⟩ := hc
    intro N P F H locs ls sv hG hS
    exfalso
    have hN := zk_pre_eq hG.2.2.2.2.2.2.2.2.2.2.2.1 (by have := zk_all2_len hG.1; dsimp only at hl ⊢; omega)
    dsimp only at hN
    subst hN
    split at c2
    · rename_i b hb
      have := zk_lbd_ok hG.1 hb
      have := of_decide_eq_true c2
      omega
    · cases c2
  | k + 1, A, hA, N', hl, hk => by
    have hc := List.all_eq_true.mp h A hA
    simp only [Bool.and_eq_true] at hc
    obtain ⟨⟨c1, c2⟩, c3⟩ := hc
    refine zk_go_ok (u := (u.1, u.2.1, u.2.2.1, u.2.2.2.1, N', u.2.2.2.2.2)) hx hb (hE N') hQ hCL (M0 := some A.2.2.2.2.2) (fun M hM => ?_) (fun A' hA' N'' hl' hM => ?_) c3
    · cases hM
      dsimp only
      rw [hl]
      exact c1
    · have := hM _ rfl
      dsimp only at this
      rcases hAN A' hA' with g | g
      · exact zk_arrs hx hb hE hQ hCL hAN h k A' g N'' hl' (by omega)
      · exact g N'' hl'
/-- a way through a method, from where something is known to marked places: those of AL are loops, of the others it is shown elsewhere -/
theorem zk_seg (hx : p.tables.exec = Jvm.exec) (hb : c.code = cc) {TB : List Jvm.Cond} {mn : Nat → MethodName} {E : zk_Ev} (hE : ∀ N', zk_ctx l R s m args meth c w (u.1, u.2.1, u.2.2.1, u.2.2.2.1, N', u.2.2.2.2.2) Ts own TB mn E) (hKa : zk_Ka (zk_ev E) = []) {CL : List zk_Ci} (hCL : ∀ q ∈ CL, decode cc q.1 = .ok (q.2.1, q.2.2.1)) {AL AN : List zk_An} {fuel : Nat} {pc : Nat} {κ : zk_C} {st : List zk_S} {cu su : Nat} (h0 : zk_go E CL AN none fuel pc κ st cu su = true)
    (h : AL.all (fun A => A.2.2.2.2.2.2.all (fun t => decide (t.2 < A.2.1.1.length)) && (match zk_lbd A.2.1.1 A.2.2.2.2.2.2 with
    | some b => decide (0 ≤ A.2.2.2.2.2.1 + b)
    | none => false) && zk_go E CL AN (some A.2.2.2.2.2) fuel A.1 A.2.1 A.2.2.1 A.2.2.2.1 A.2.2.2.2.1) = true)
    (hAN : ∀ A ∈ AN, A ∈ AL ∨ ∀ N' : List Int, N'.length = A.2.1.1.length → zk_J p l e R s m args below meth c Q w (u.1, u.2.1, u.2.2.1, u.2.2.2.1, N', u.2.2.2.2.2) A.2.1 A.2.2.1 A.2.2.2.1 A.2.2.2.2.1 A.1) : zk_J p l e R s m args below meth c Q w (u.1, u.2.1, u.2.2.1, u.2.2.2.1, [], u.2.2.2.2.2) κ st cu su pc := by
  refine zk_go_ok (u := (u.1, u.2.1, u.2.2.1, u.2.2.2.1, [], u.2.2.2.2.2)) hx hb (hE []) (Or.inr hKa) hCL (M0 := none) (fun M hM => by cases hM) (fun A hA N' hl _ => ?_) h0
  rcases hAN A hA with g | g
  · exact zk_arrs hx hb hE (Or.inr hKa) hCL hAN h (A.2.2.2.2.2.1 + zk_lev N' A.2.2.2.2.2.2 + 1).toNat A g N' hl (by omega)
  · exact g N' hl
/-- what is known stays when one begins anew where one is: what was written since is named by other codes -/
theorem zk_G.rebase {κ : zk_C} {N : List Int} {P : Nat → Option Nat} {F : Nat → va_E} {H : Heap} {locs : List Loc} {ls : Array Slot} (hG : zk_G w s u κ N P F H locs ls) (eff : List (Nat × Nat × Nat)) : zk_G w s (P, F, u.2.2.1, eff, [], u.2.2.2.2.2) (κ.1, κ.2.1, κ.2.2.1, κ.2.2.2.1, κ.2.2.2.2.1, κ.2.2.2.2.2.1, []) N P F H locs ls := by
  obtain ⟨h1, h2, h3, h4, h5, h6, h7, h8, h9, h10, h11, h12, h13⟩ := hG
  exact ⟨h1, h2, h3, h4, h5, h6, fun _ _ h => h, fun _ _ _ => zk_same.rf, h9, h10, fun q h => absurd h List.not_mem_nil, fun i n h => by simp at h, h13⟩
/-- and back -/
theorem zk_G.back {κ κ' : zk_C} {N N' : List Int} {P P' : Nat → Option Nat} {F F' : Nat → va_E} {H H' : Heap} {locs locs' : List Loc} {ls ls' : Array Slot} (hG : zk_G w s u κ N P F H locs ls) {eff : List (Nat × Nat × Nat)} {N0 : List Int} (hG' : zk_G w s (P, F, u.2.2.1, eff, N0, u.2.2.2.2.2) κ' N' P' F' H' locs' ls') (hu : u.2.2.2.2.1 = []) (he : ∀ e ∈ eff, e ∈ u.2.2.2.1) : zk_G w s u (κ'.1, κ'.2.1, κ'.2.2.1, κ'.2.2.2.1, κ'.2.2.2.2.1, κ'.2.2.2.2.2.1, []) N' P' F' H' locs' ls' := by
  obtain ⟨h1, h2, h3, h4, h5, h6, h7, h8, h9, h10, h11, h12, h13⟩ := hG'
  obtain ⟨-, -, -, -, -, -, g7, g8, -⟩ := hG
  refine ⟨h1, h2, h3, h4, h5, h6, fun a t h => h7 a t (g7 a t h), fun a t h => (g8 a t h).trans ((h8 a t (g7 a t h)).mono (fun k hk => ?_)), h9, h10, fun q h => absurd h List.not_mem_nil, fun i n h => by rw [hu] at h; simp at h, h13⟩
  obtain ⟨q, q1, q2⟩ := hk
  exact ⟨q, he q q1, q2⟩
end ZK22
theorem zk_methJ {l : Launch} {w : zk_W} {TB : List Jvm.Cond} {E : zk_Ev} {mn : Nat → MethodName} {A : zk_Q} {B : zk_B} (hc0 : zk_e0b E = true) (hw : w.1 = E.1) (hdv : zk_dvok w E.2.2.1) (hcl : zk_cls w TB) (hTB : GoodIn TB TB) (hKS : ∀ (j : Nat) (K : zk_K), E.2.2.2.1[j]? = some K → zk_met l w E.2.2.1 TB K ∧ zk_cok w TB K) (hkm : ∀ (j : Nat) (K : zk_K) (k : Nat), E.2.2.2.1[j]? = some K → E.2.2.2.2.1[j]? = some k → K.1 = mn k)
    (hst : zk_stab w) (hlk : ∀ (s : State) (args : Array Value), w.2.2.2.2.2 s → (∀ x ∈ TB, x.before args s = true) → ∀ q ∈ E.2.1, zk_lkok w s args (zk_ev E).1.cls q) (hlc : ∀ (s : State) (args : Array Value), w.2.2.2.2.2 s → (∀ x ∈ TB, x.before args s = true) → ∀ q ∈ E.2.2.2.2.2.1, zk_lc s args (zk_ev E).1.cls q.1 q.2.1 (mn q.2.2)) (hC : zk_cok w TB (zk_ev E)) 
    (hJ : ∀ (p : Program) (e : Env) (R : Room) (s : State) (m : MethodId) (args : Array Value) (below : List Frame) (meth : Method) (c : Code) (Q : State → Prop) (P0 : Nat → Option Nat) (G0 : Nat → va_E) (ps : List Int) (X : Nat → Prop), p.tables.exec = Jvm.exec → c.code = (zk_ev E).2.1 → A P0 G0 ps → zk_all2 (zk_ok P0) (zk_Kp (zk_ev E)) ps → (∀ N' P1 G1 eff ca, (∀ a t, P0 a = some t → P1 a = some t) → zk_ctx l R s m args meth c w (P1, G1, ps, eff, N', (zk_ev E).2.2.1, X) TB (zk_ev E).1.cls TB mn (E.1, E.2.1, E.2.2.1, E.2.2.2.1, E.2.2.2.2.1, E.2.2.2.2.2.1, (zk_ev E).1, (zk_ev E).2.1, (zk_ev E).2.2.1, (zk_ev E).2.2.2.1, zk_Kk (zk_ev E), zk_Kc (zk_ev E), zk_Kp (zk_ev E), ca, eff, zk_Kr (zk_ev E))) → Q = MQ below (fun _ st o t => zk_postX w (zk_ev E) B P0 G0 ps st t o) args s (zk_Kr (zk_ev E)).2.2.1 (zk_Kr (zk_ev E)).2.2.2 (fun q => w.2.2.2.1 ≤ q) → ∀ (H : Heap) (locs : List Loc) (ls : Array Slot), zk_G w s (P0, G0, ps, zk_Ke (zk_ev E), [], (zk_ev E).2.2.1, X) (zk_k0 E) ([0, 0, -1] ++ ps) P0 G0 H locs ls → W p l e R s m args below meth c H locs 0 0 Q (F0 m 0 ls [])) : zk_metX l w E.2.2.1 TB (zk_ev E) A B := by
  intro P0 F0 ps sz hps hAA
  unfold zk_e0b at hc0
  rw [Bool.and_eq_true] at hc0
  obtain ⟨hz, hct⟩ := hc0
  have hz := of_decide_eq_true hz
  have hlen := zk_all2_len hps
  refine Met.ofW (cc := (zk_ev E).2.1) (maxL := (zk_ev E).2.2.1) (ret := (zk_ev E).2.2.2.1) hC.1 rfl ?_
  intro p e s m args below meth c s₁ B hml hv
  obtain ⟨rfl, hsz, hbs, hwt, hK, hth, hZ, htx⟩ := hv
  have hx := B.exec
  have hb := B.bytes
  have hts0 := atoms_spec B.pre
  have hts : ∀ x ∈ TB, x.before (zk_avs (zk_Kp (zk_ev E)) ps).toArray s = true := fun x h => hts0 x (List.mem_cons_of_mem _ h)
  have hown : s.vm.findClass (zk_ev E).1.cls = some m.cls := findClass_of_methodNamed B.named
  have hin : zk_Kk (zk_ev E) = 2 → meth.name = "<init>" := fun h => (name_of_methodNamed B.named B.method).1.trans (hC.2.2.2.2.2.2 h).1
  subst hsz
  let X : Nat → Prop := fun q => P0 q = none ∧ ¬ (zk_Kk (zk_ev E) = 2 ∧ ps[0]? = some (q : Int))
  have hE : ∀ N' P1 G1 eff ca, (∀ a t, P0 a = some t → P1 a = some t) → zk_ctx l (headSpec (Cond.code (zk_ev E).1 (zk_ev E).2.1 (zk_ev E).2.2.1 (zk_ev E).2.2.2.1 :: TB) (zk_rm (zk_ev E))).room s m (zk_avs (zk_Kp (zk_ev E)) ps).toArray meth c w (P1, G1, ps, eff, N', (zk_ev E).2.2.1, X) TB (zk_ev E).1.cls TB mn (E.1, E.2.1, E.2.2.1, E.2.2.2.1, E.2.2.2.2.1, E.2.2.2.2.2.1, (zk_ev E).1, (zk_ev E).2.1, (zk_ev E).2.2.1, (zk_ev E).2.2.2.1, zk_Kk (zk_ev E), zk_Kc (zk_ev E), zk_Kp (zk_ev E), ca, eff, zk_Kr (zk_ev E)) := fun N' P1 G1 eff ca hP1 =>
    ⟨⟨hml, rfl, rfl⟩, hts, hcl, hown, hK, hw, hbs, hlk s _ hZ hts, hdv, hin, ⟨Nat.le_refl _, Nat.le_refl _, Nat.le_refl _, Nat.le_refl _⟩, hTB, hKS, hkm, hlc s _ hZ hts, ⟨B.notSynchronized, B.returns, hlen⟩, fun q h1 h2 => ⟨(by
      have h1 : P1 q = none := h1
      cases hq : P0 q with
      | none => rfl
      | some t => rw [hP1 q t hq] at h1; exact absurd h1 (by simp)), h2⟩, hst, hZ, fun t a h => hP1 a t (htx t a h)⟩
  have hl := lv_entry (zk_avs (zk_Kp (zk_ev E)) ps) (n := (zk_ev E).2.2.1) (by rw [zk_lsz_ok hlen]; exact hz)
  rw [lg_entry_eq]
  generalize (lg_sl (zk_avs (zk_Kp (zk_ev E)) ps) ++ List.replicate ((zk_ev E).2.2.1 - (lg_sl (zk_avs (zk_Kp (zk_ev E)) ps)).length) Slot.unset).toArray = ls at hl ⊢
  have hV : ∀ (t : Nat) (f : zk_F), (zk_Kp (zk_ev E))[t]? = some f → (zk_V0 ++ zk_Kp (zk_ev E))[3 + t]? = some f := fun t f h => by
    rw [List.getElem?_append_right (by show 3 ≤ 3 + t; omega)]
    show (zk_Kp (zk_ev E))[3 + t - 3]? = some f
    rw [show 3 + t - 3 = t by omega]
    exact h
  have hN : ∀ (t : Nat) (n : Int), ps[t]? = some n → ([0, 0, -1] ++ ps : List Int)[3 + t]? = some n := fun t f h => by
    rw [List.getElem?_append_right (by show 3 ≤ 3 + t; omega)]
    show ps[3 + t - 3]? = some f
    rw [show 3 + t - 3 = t by omega]
    exact h
  refine hJ p e _ s m _ below meth c _ P0 F0 ps X hx hb hAA hps hE rfl s.heap [] ls ⟨zk_all2_app ⟨⟨by decide, by decide, by decide, by decide⟩, ⟨by decide, by decide, by decide, by decide⟩, ⟨by decide, by decide, fun _ => by decide, fun h => absurd h (by decide)⟩, trivial⟩ hps, fun q h => absurd h List.not_mem_nil, fun q h => absurd h List.not_mem_nil, ?_, hwt, ⟨_, hl, zk_larg_ok hps hV hN⟩, fun _ _ h => h, fun a t h => zk_same.rf, va_S.rf, fun q hq => ?_, fun q h => absurd h List.not_mem_nil, fun i n h => by simp at h, fun q _ h => ⟨h.1, rfl⟩⟩
  · show zk_rw w _ _ _ P0 s.heap (zk_rw0 E) s.heap.size
    unfold zk_rw0
    split
    · rename_i hk
      obtain ⟨n, f, T, ds, t1, t2, t3, t4, t5, t6, t7, t8, t9⟩ := hth hk
      rw [hw] at t3
      rw [if_pos hk] at hct
      rw [t2]
      dsimp only
      rw [t3]
      dsimp only
      have hds : E.2.2.1.getD T.2.1 [] = ds := by rw [List.getD_eq_getElem?_getD, t5]; rfl
      rw [hds]
      refine ⟨n, ds.map zk_dval, hN 0 n t1, t6, ⟨t7, fun h => h.2.2 ⟨hk, t1⟩⟩, t8, t9, zk_dval_sv (E := E) ⟨rfl, rfl, rfl⟩ (List.all_eq_true.mp hct ds (List.mem_of_getElem? t5)), trivial⟩
    · trivial
  · obtain ⟨j, h1, rfl⟩ := List.mem_map.mp hq
    have h1 := List.mem_range.mp h1
    have hj : j < ps.length := by rw [← hlen]; exact h1
    exact ⟨ps[j], hN j _ (List.getElem?_eq_getElem hj), List.getElem?_eq_getElem hj⟩
theorem zk_meth {l : Launch} {w : zk_W} {TB : List Jvm.Cond} {E : zk_Ev} {CL : List zk_Ci} {AN : List zk_An} {fuel : Nat} {mn : Nat → MethodName} (hc : zk_chk E CL AN fuel = true) (hCL : ∀ q ∈ CL, decode (zk_ev E).2.1 q.1 = .ok (q.2.1, q.2.2.1)) (hw : w.1 = E.1) (hdv : zk_dvok w E.2.2.1) (hcl : zk_cls w TB) (hTB : GoodIn TB TB) (hKS : ∀ (j : Nat) (K : zk_K), E.2.2.2.1[j]? = some K → zk_met l w E.2.2.1 TB K ∧ zk_cok w TB K) (hkm : ∀ (j : Nat) (K : zk_K) (k : Nat), E.2.2.2.1[j]? = some K → E.2.2.2.2.1[j]? = some k → K.1 = mn k)
    (hst : zk_stab w) (hlk : ∀ (s : State) (args : Array Value), w.2.2.2.2.2 s → (∀ x ∈ TB, x.before args s = true) → ∀ q ∈ E.2.1, zk_lkok w s args (zk_ev E).1.cls q) (hlc : ∀ (s : State) (args : Array Value), w.2.2.2.2.2 s → (∀ x ∈ TB, x.before args s = true) → ∀ q ∈ E.2.2.2.2.2.1, zk_lc s args (zk_ev E).1.cls q.1 q.2.1 (mn q.2.2)) (hC : zk_cok w TB (zk_ev E)) : zk_met l w E.2.2.1 TB (zk_ev E) := by
  unfold zk_chk at hc
  rw [Bool.and_eq_true, Bool.and_eq_true] at hc
  obtain ⟨⟨hc0, hc1⟩, hc2⟩ := hc
  refine zk_methJ hc0 hw hdv hcl hTB hKS hkm hst hlk hlc hC (fun p e R s m args below meth c Q P0 G0 ps X hx hb _ hps hE hQ H locs ls hG => ?_)
  have hE' : ∀ N', zk_ctx l R s m args meth c w (P0, G0, ps, zk_Ke (zk_ev E), N', (zk_ev E).2.2.1, X) TB (zk_ev E).1.cls TB mn E := fun N' => hE N' P0 G0 (zk_Ke (zk_ev E)) (zk_Ka (zk_ev E)) (fun _ _ h => h)
  have hA := zk_arrs (u := (P0, G0, ps, zk_Ke (zk_ev E), [], (zk_ev E).2.2.1, X)) (Q := Q) (e := e) (p := p) (below := below) hx hb hE' (Or.inl hQ) hCL (AL := AN) (AN := AN) (fun A h => Or.inl h) hc2
  exact zk_go_ok (u := (P0, G0, ps, zk_Ke (zk_ev E), [], (zk_ev E).2.2.1, X)) (M0 := none) (Q := Q) (e := e) (p := p) (below := below) hx hb (hE' []) (Or.inl hQ) hCL (fun M h => by cases h) (fun A hA' N' hl hM => hA ((A.2.2.2.2.2.1 + zk_lev N' A.2.2.2.2.2.2 + 1).toNat) A hA' N' hl (by omega)) hc1 _ P0 G0 H locs ls [] hG trivial
end
section
/-! part 23: the tables: classes, methods, words -/
def zt_T0 : u_T := fun k => match k with
  | 0 => ("WoundTown$Day", "rules", "LWoundTown$Rules;", true)
  | 1 => ("WoundTown$Day", "town", "LWoundTown$Town;", false)
  | 2 => ("WoundTown$Day", "going", "LWoundTown$Going;", false)
  | 3 => ("WoundTown$Day", "power", "[I", true)
  | 4 => ("WoundTown$Day", "done", "[I", true)
  | _ => ("WoundTown$Day", "ends", "[I", true)
def zt_T1 : u_T := fun k => match k with
  | 0 => ("WoundTown$Decade", "going", "LWoundTown$Going;", true)
  | 1 => ("WoundTown$Decade", "seed", "I", false)
  | 2 => ("WoundTown$Decade", "daysRun", "I", false)
  | _ => ("WoundTown$Decade", "works", "I", false)
def zt_T2 : u_T := fun k => match k with
  | 0 => ("WoundTown$Going", "oil", "[I", true)
  | 1 => ("WoundTown$Going", "little", "[I", true)
  | 2 => ("WoundTown$Going", "done", "[I", true)
  | 3 => ("WoundTown$Going", "life", "I", false)
  | 4 => ("WoundTown$Going", "snapped", "Z", false)
  | 5 => ("WoundTown$Going", "turns", "I", false)
  | _ => ("WoundTown$Going", "day", "I", false)
def zt_T3 : u_T := fun k => match k with
  | 0 => ("WoundTown$Orderly", "row", "[I", true)
  | 1 => ("WoundTown$Orderly", "speeds", "[I", true)
  | 2 => ("WoundTown$Orderly", "done", "[I", true)
  | 3 => ("WoundTown$Orderly", "ends", "[I", true)
  | 4 => ("WoundTown$Orderly", "best", "[I", true)
  | 5 => ("WoundTown$Orderly", "size", "I", false)
  | _ => ("WoundTown$Orderly", "worth", "I", false)
def zt_T4 : u_T := fun k => match k with
  | 0 => ("WoundTown$Places", "ways", "[I", true)
  | _ => ("WoundTown$Places", "least", "[I", true)
def zt_T5 : u_T := fun k => match k with
  | 0 => ("WoundTown$Reader", "tape", "LWoundTown$Tape;", true)
  | 1 => ("WoundTown$Reader", "text", "LWoundTown$Text;", true)
  | 2 => ("WoundTown$Reader", "fault", "I", false)
  | 3 => ("WoundTown$Reader", "ofOrders", "Z", false)
  | _ => ("WoundTown$Reader", "parts", "I", false)
def zt_T6 : u_T := fun k => match k with
  | 0 => ("WoundTown$Rules", "words", "[I", true)
  | 1 => ("WoundTown$Rules", "stack", "[J", true)
  | _ => ("WoundTown$Rules", "law", "LWoundTown$Text;", false)
def zt_T7 : u_T := fun k => match k with
  | 0 => ("WoundTown$Tape", "bytes", "[I", true)
  | 1 => ("WoundTown$Tape", "length", "I", false)
  | 2 => ("WoundTown$Tape", "kind", "I", false)
  | 3 => ("WoundTown$Tape", "start", "I", false)
  | 4 => ("WoundTown$Tape", "behind", "I", false)
  | _ => ("WoundTown$Tape", "sign", "I", false)
def zt_T8 : u_T := fun k => match k with
  | 0 => ("WoundTown$Text", "kinds", "[I", true)
  | 1 => ("WoundTown$Text", "sums", "[I", true)
  | 2 => ("WoundTown$Text", "seconds", "[I", true)
  | 3 => ("WoundTown$Text", "times", "[I", true)
  | 4 => ("WoundTown$Text", "tests", "[I", true)
  | 5 => ("WoundTown$Text", "code", "[I", true)
  | 6 => ("WoundTown$Text", "clauses", "I", false)
  | _ => ("WoundTown$Text", "size", "I", false)
def zt_T9 : u_T := fun k => match k with
  | 0 => ("WoundTown$Town", "roads", "[I", true)
  | 1 => ("WoundTown$Town", "people", "I", false)
  | 2 => ("WoundTown$Town", "place", "[I", true)
  | 3 => ("WoundTown$Town", "works", "I", false)
  | 4 => ("WoundTown$Town", "owner", "[I", true)
  | 5 => ("WoundTown$Town", "minutes", "[I", true)
  | 6 => ("WoundTown$Town", "due", "[I", true)
  | 7 => ("WoundTown$Town", "worth", "[I", true)
  | 8 => ("WoundTown$Town", "ahead", "[I", true)
  | 9 => ("WoundTown$Town", "sights", "I", false)
  | 10 => ("WoundTown$Town", "sightWork", "[I", true)
  | 11 => ("WoundTown$Town", "sightHour", "[I", true)
  | 12 => ("WoundTown$Town", "sightMinutes", "[I", true)
  | 13 => ("WoundTown$Town", "laws", "[LWoundTown$Text;", true)
  | 14 => ("WoundTown$Town", "lawCount", "I", false)
  | 15 => ("WoundTown$Town", "force", "I", false)
  | 16 => ("WoundTown$Town", "sunday", "I", false)
  | 17 => ("WoundTown$Town", "mood", "I", false)
  | _ => ("WoundTown$Town", "going", "LWoundTown$Going;", true)
def zt_T10 : u_T := fun k => match k with
  | 0 => ("WoundTown$Undo", "kinds", "[I", true)
  | 1 => ("WoundTown$Undo", "rows", "[I", true)
  | 2 => ("WoundTown$Undo", "first", "I", false)
  | _ => ("WoundTown$Undo", "size", "I", false)
def zt_T11 : u_T := fun k => match k with
  | 0 => ("WoundTown", "town", "LWoundTown$Town;", true)
  | 1 => ("WoundTown", "images", "[LWoundTown$Town;", true)
  | 2 => ("WoundTown", "undo", "LWoundTown$Undo;", true)
  | 3 => ("WoundTown", "rules", "LWoundTown$Rules;", true)
  | 4 => ("WoundTown", "day", "LWoundTown$Day;", true)
  | 5 => ("WoundTown", "orderly", "LWoundTown$Orderly;", true)
  | 6 => ("WoundTown", "ways", "LWoundTown$Places;", true)
  | 7 => ("WoundTown", "decade", "LWoundTown$Decade;", true)
  | 8 => ("WoundTown", "tape", "LWoundTown$Tape;", true)
  | 9 => ("WoundTown", "reader", "LWoundTown$Reader;", true)
  | 10 => ("WoundTown", "goingBefore", "LWoundTown$Going;", true)
  | 11 => ("WoundTown", "undoBefore", "LWoundTown$Undo;", true)
  | 12 => ("WoundTown", "orderWords", "[I", true)
  | 13 => ("WoundTown", "ordersDone", "I", false)
  | 14 => ("WoundTown", "ordersEnded", "I", false)
  | 15 => ("WoundTown", "stopped", "I", false)
  | 16 => ("WoundTown", "trial", "LWoundTown$Going;", true)
  | 17 => ("WoundTown", "dust", "I", false)
  | 18 => ("WoundTown", "status", "I", false)
  | _ => ("WoundTown", "refusals", "[I", true)
def zt_T12 : u_T := fun k => match k with
  | 0 => ("WoundTownModel", "thrown", "I", false)
  | 1 => ("WoundTownModel", "status", "I", false)
  | 2 => ("WoundTownModel", "refusals", "[I", true)
  | 3 => ("WoundTownModel", "row", "[I", true)
  | 4 => ("WoundTownModel", "images", "[I", true)
  | 5 => ("WoundTownModel", "isKept", "[Z", true)
  | 6 => ("WoundTownModel", "undos", "[I", true)
  | 7 => ("WoundTownModel", "sorts", "[I", true)
  | 8 => ("WoundTownModel", "nUndo", "I", false)
  | 9 => ("WoundTownModel", "undosBefore", "[I", true)
  | 10 => ("WoundTownModel", "sortsBefore", "[I", true)
  | 11 => ("WoundTownModel", "dust", "I", false)
  | 12 => ("WoundTownModel", "tape", "[I", true)
  | 13 => ("WoundTownModel", "taped", "I", false)
  | 14 => ("WoundTownModel", "from", "I", false)
  | 15 => ("WoundTownModel", "to", "I", false)
  | 16 => ("WoundTownModel", "sort", "I", false)
  | 17 => ("WoundTownModel", "worth", "J", false)
  | 18 => ("WoundTownModel", "fault", "I", false)
  | 19 => ("WoundTownModel", "bad", "Z", false)
  | 20 => ("WoundTownModel", "ordered", "Z", false)
  | 21 => ("WoundTownModel", "nClauses", "I", false)
  | 22 => ("WoundTownModel", "nClause", "[I", true)
  | 23 => ("WoundTownModel", "nCode", "I", false)
  | 24 => ("WoundTownModel", "nOp", "[I", true)
  | 25 => ("WoundTownModel", "nArg", "[I", true)
  | 26 => ("WoundTownModel", "nLeaves", "I", false)
  | 27 => ("WoundTownModel", "pile", "[I", true)
  | 28 => ("WoundTownModel", "pileAt", "[I", true)
  | 29 => ("WoundTownModel", "piled", "I", false)
  | 30 => ("WoundTownModel", "opened", "I", false)
  | 31 => ("WoundTownModel", "words", "[J", true)
  | 32 => ("WoundTownModel", "orderWords", "[J", true)
  | 33 => ("WoundTownModel", "heads", "[J", true)
  | 34 => ("WoundTownModel", "law", "I", false)
  | 35 => ("WoundTownModel", "set", "[J", true)
  | 36 => ("WoundTownModel", "now", "[J", true)
  | 37 => ("WoundTownModel", "rest", "[J", true)
  | 38 => ("WoundTownModel", "broken", "Z", false)
  | 39 => ("WoundTownModel", "value", "J", false)
  | 40 => ("WoundTownModel", "sum", "J", false)
  | 41 => ("WoundTownModel", "powerAt", "[I", true)
  | 42 => ("WoundTownModel", "speedAt", "[I", true)
  | 43 => ("WoundTownModel", "doneAt", "[I", true)
  | 44 => ("WoundTownModel", "worked", "[I", true)
  | 45 => ("WoundTownModel", "endedIn", "[I", true)
  | 46 => ("WoundTownModel", "isReady", "[Z", true)
  | 47 => ("WoundTownModel", "orderly", "I", false)
  | 48 => ("WoundTownModel", "order", "[I", true)
  | 49 => ("WoundTownModel", "nOrdered", "I", false)
  | 50 => ("WoundTownModel", "mine", "[I", true)
  | 51 => ("WoundTownModel", "tried", "[I", true)
  | 52 => ("WoundTownModel", "bestOrder", "[I", true)
  | 53 => ("WoundTownModel", "most", "I", false)
  | 54 => ("WoundTownModel", "far", "[I", true)
  | 55 => ("WoundTownModel", "wins", "[I", true)
  | 56 => ("WoundTownModel", "nOrder", "[I", true)
  | 57 => ("WoundTownModel", "done", "I", false)
  | 58 => ("WoundTownModel", "ended", "I", false)
  | 59 => ("WoundTownModel", "stopped", "I", false)
  | 60 => ("WoundTownModel", "off", "Z", false)
  | 61 => ("WoundTownModel", "state", "J", false)
  | 62 => ("WoundTownModel", "drawn", "[I", true)
  | _ => ("WoundTownModel", "nDrawn", "I", false)
def zt_cl : List vw_C := [("WoundTown$Day", zt_T0, 6), ("WoundTown$Decade", zt_T1, 4), ("WoundTown$Going", zt_T2, 7), ("WoundTown$Orderly", zt_T3, 7), ("WoundTown$Places", zt_T4, 2), ("WoundTown$Reader", zt_T5, 5), ("WoundTown$Rules", zt_T6, 3), ("WoundTown$Tape", zt_T7, 6), ("WoundTown$Text", zt_T8, 8), ("WoundTown$Town", zt_T9, 19), ("WoundTown$Undo", zt_T10, 4), ("WoundTown", zt_T11, 20), ("WoundTownModel", zt_T12, 64)]
def zt_privs : List (MethodName × Nat) := [(⟨"WoundTown", "refused", "(I)I"⟩, 0), (⟨"WoundTown", "answered", "(I)I"⟩, 0), (⟨"WoundTown", "addWorkOfRow", "(I)Z"⟩, 0), (⟨"WoundTown$Reader", "orderClause", "()Z"⟩, 0), (⟨"WoundTown$Reader", "wholeSum", "([I)Z"⟩, 0), (⟨"WoundTown$Reader", "sum", "(I)Z"⟩, 0), (⟨"WoundTown$Reader", "term", "(I)Z"⟩, 0), (⟨"WoundTown$Reader", "part", "(I)Z"⟩, 0), (⟨"WoundTown$Reader", "timesOrBy", "()I"⟩, 0), (⟨"WoundTown$Reader", "repeats", "()Z"⟩, 0), (⟨"WoundTown$Reader", "condition", "()Z"⟩, 0), (⟨"WoundTown$Reader", "test", "(I)Z"⟩, 0), (⟨"WoundTown$Reader", "both", "(I)Z"⟩, 0), (⟨"WoundTown$Reader", "plain", "(I)Z"⟩, 0), (⟨"WoundTown$Reader", "bracketed", "(I)Z"⟩, 0), (⟨"WoundTown$Reader", "comparison", "()I"⟩, 0), (⟨"WoundTown$Reader", "lawClause", "()Z"⟩, 0), (⟨"WoundTown", "isClauseRun", "(LWoundTown$Text;I)Z"⟩, 0), (⟨"WoundTown", "tellOrderWords", "()V"⟩, 0), (⟨"WoundTown", "windBy", "(I)I"⟩, 0), (⟨"WoundTown$Rules", "tellHour", "(II)V"⟩, 0), (⟨"WoundTown$Rules", "tellPerson", "(III)V"⟩, 0), (⟨"WoundTown$Rules", "told", "(I)J"⟩, 0), (⟨"WoundTown", "keyBy", "(II)I"⟩, 0), (⟨"WoundTown", "runDay", "()I"⟩, 0), (⟨"WoundTown$Day", "passHour", "(I)V"⟩, 0), (⟨"WoundTown$Day", "workOf", "(II)I"⟩, 0), (⟨"WoundTown$Day", "isReady", "(II)Z"⟩, 0), (⟨"WoundTown$Day", "isEnding", "(I)Z"⟩, 0), (⟨"WoundTown", "mendBy", "(I)I"⟩, 0), (⟨"WoundTown", "settled", "(I)I"⟩, 0), (⟨"WoundTown$Orderly", "begin", "(LWoundTown$Town;LWoundTown$Day;I)V"⟩, 0), (⟨"WoundTown$Orderly", "pass", "(LWoundTown$Town;)V"⟩, 0), (⟨"WoundTown$Orderly", "workOf", "(LWoundTown$Town;I)I"⟩, 0), (⟨"WoundTown$Orderly", "isReady", "(LWoundTown$Town;II)Z"⟩, 0), (⟨"WoundTown$Orderly", "worthInTime", "(LWoundTown$Town;)I"⟩, 0), (⟨"WoundTown$Orderly", "isNextRow", "()Z"⟩, 0), (⟨"WoundTown$Orderly", "exchange", "(II)V"⟩, 0), (⟨"WoundTown$Places", "measureWays", "([I)V"⟩, 0), (⟨"WoundTown$Places", "way", "(II)I"⟩, 0), (⟨"WoundTown$Places", "leastOf", "(II)I"⟩, 0), (⟨"WoundTown$Places", "by", "(III)I"⟩, 0), (⟨"WoundTown$Places", "firstOf", "(II)I"⟩, 0), (⟨"WoundTown$Decade", "windByDraws", "(LWoundTown$Town;LWoundTown$Rules;)V"⟩, 0), (⟨"WoundTown$Decade", "draw", "(I)I"⟩, 0), (⟨"WoundTownModel", "tell", "(I)I"⟩, 0), (⟨"WoundTownModel", "putBack", "(I)V"⟩, 0), (⟨"WoundTownModel", "settled", "(I)I"⟩, 0), (⟨"WoundTownModel", "change", "(II)I"⟩, 0), (⟨"WoundTownModel", "isPerson", "(I)Z"⟩, 0), (⟨"WoundTownModel", "ofPerson", "(II)I"⟩, 0), (⟨"WoundTownModel", "ofWork", "(II)I"⟩, 0), (⟨"WoundTownModel", "isOver", "(I)Z"⟩, 0), (⟨"WoundTownModel", "work1", "(IIIII)I"⟩, 0), (⟨"WoundTownModel", "isWork", "(I)Z"⟩, 0), (⟨"WoundTownModel", "four", "(I)V"⟩, 0), (⟨"WoundTownModel", "beginText", "(Z)V"⟩, 0), (⟨"WoundTownModel", "begin", "()V"⟩, 0), (⟨"WoundTownModel", "next", "()V"⟩, 0), (⟨"WoundTownModel", "readLaw", "()V"⟩, 0), (⟨"WoundTownModel", "isWord", "(J)Z"⟩, 0), (⟨"WoundTownModel", "must", "(Z)V"⟩, 0), (⟨"WoundTownModel", "readExpression", "(Z)V"⟩, 0), (⟨"WoundTownModel", "readPlain", "()I"⟩, 0), (⟨"WoundTownModel", "push", "(II)V"⟩, 0), (⟨"WoundTownModel", "isSign", "(I)Z"⟩, 0), (⟨"WoundTownModel", "openBracket", "(I)V"⟩, 0), (⟨"WoundTownModel", "readPart", "()I"⟩, 0), (⟨"WoundTownModel", "orderPartAt", "()I"⟩, 0), (⟨"WoundTownModel", "partAt", "()I"⟩, 0), (⟨"WoundTownModel", "leaf", "(ZII)V"⟩, 0), (⟨"WoundTownModel", "emit", "(II)V"⟩, 0), (⟨"WoundTownModel", "number", "(JJ)I"⟩, 0), (⟨"WoundTownModel", "behindSum", "(Z)I"⟩, 0), (⟨"WoundTownModel", "settle", "(I)V"⟩, 0), (⟨"WoundTownModel", "inner", "()I"⟩, 0), (⟨"WoundTownModel", "isCompared", "()Z"⟩, 0), (⟨"WoundTownModel", "behindTest", "()I"⟩, 0), (⟨"WoundTownModel", "endText", "()V"⟩, 0), (⟨"WoundTownModel", "wearsOf", "(I)I"⟩, 0), (⟨"WoundTownModel", "setHour", "(IIII)V"⟩, 0), (⟨"WoundTownModel", "tells", "(IJ)J"⟩, 0), (⟨"WoundTownModel", "today", "()I"⟩, 0), (⟨"WoundTownModel", "isSo", "(I)Z"⟩, 0), (⟨"WoundTownModel", "reckonAll", "(II)V"⟩, 0), (⟨"WoundTownModel", "reckon", "(IJJ)J"⟩, 0), (⟨"WoundTownModel", "snapsOf", "(I)I"⟩, 0), (⟨"WoundTownModel", "layDay", "(I)V"⟩, 0), (⟨"WoundTownModel", "speedsOf", "(IIII)I"⟩, 0), (⟨"WoundTownModel", "pick", "(I)I"⟩, 0), (⟨"WoundTownModel", "canGoOn", "(I)Z"⟩, 0), (⟨"WoundTownModel", "runsOf", "(III)I"⟩, 0), (⟨"WoundTownModel", "standsFrom", "()I"⟩, 0), (⟨"WoundTownModel", "isInTime", "(I)Z"⟩, 0), (⟨"WoundTownModel", "isFresh", "(I)Z"⟩, 0), (⟨"WoundTownModel", "weighOrder", "(I)V"⟩, 0), (⟨"WoundTownModel", "keepAll", "(I)V"⟩, 0), (⟨"WoundTownModel", "findWays", "()V"⟩, 0), (⟨"WoundTownModel", "goRound", "(I)I"⟩, 0), (⟨"WoundTownModel", "windNow", "(I)I"⟩, 0), (⟨"WoundTownModel", "remember", "(I)V"⟩, 0), (⟨"WoundTownModel", "wear", "(I)Z"⟩, 0), (⟨"WoundTownModel", "keyNow", "(II)I"⟩, 0), (⟨"WoundTownModel", "isBarred", "(II)Z"⟩, 0), (⟨"WoundTownModel", "runNow", "()I"⟩, 0), (⟨"WoundTownModel", "runDay", "()I"⟩, 0), (⟨"WoundTownModel", "mendNow", "(I)I"⟩, 0), (⟨"WoundTownModel", "readOrder", "()V"⟩, 0), (⟨"WoundTownModel", "readSum", "(I)V"⟩, 0), (⟨"WoundTownModel", "runOne", "(I)I"⟩, 0), (⟨"WoundTownModel", "sumOf", "(I)I"⟩, 0), (⟨"WoundTownModel", "giveBack", "(I)V"⟩, 0), (⟨"WoundTownModel", "drawMorning", "()V"⟩, 0), (⟨"WoundTownModel", "draw", "(I)I"⟩, 0)]
def zt_tbl : List Jvm.Cond := k2_sels zt_privs ++ tables_1
def zt_TB : List Jvm.Cond := zt_tbl.filter goodWord
def zt_ms : List MethodName := [⟨"WoundTown", "<init>", "()V"⟩, ⟨"WoundTown$Town", "<init>", "()V"⟩, ⟨"WoundTown$Going", "<init>", "()V"⟩, ⟨"WoundTown$Undo", "<init>", "()V"⟩, ⟨"WoundTown$Rules", "<init>", "()V"⟩, ⟨"WoundTown$Day", "<init>", "(LWoundTown$Rules;LWoundTown$Town;)V"⟩, ⟨"WoundTown$Orderly", "<init>", "()V"⟩, ⟨"WoundTown$Places", "<init>", "()V"⟩, ⟨"WoundTown$Decade", "<init>", "()V"⟩, ⟨"WoundTown$Tape", "<init>", "()V"⟩, ⟨"WoundTown$Reader", "<init>", "(LWoundTown$Tape;)V"⟩, ⟨"WoundTown$Text", "<init>", "(II)V"⟩, ⟨"java/lang/Math", "min", "(II)I"⟩, ⟨"java/lang/Math", "max", "(II)I"⟩, ⟨"WoundTown", "road", "(III)I"⟩, ⟨"WoundTown", "isWithin", "(III)Z"⟩, ⟨"WoundTown", "refused", "(I)I"⟩, ⟨"WoundTown", "answered", "(I)I"⟩, ⟨"WoundTown", "person", "(II)I"⟩, ⟨"WoundTown$Undo", "clear", "()V"⟩, ⟨"WoundTown$Town", "addPerson", "(II)I"⟩, ⟨"WoundTown", "oil", "(II)I"⟩, ⟨"WoundTown$Town", "hasPerson", "(I)Z"⟩, ⟨"WoundTown", "of", "(II)I"⟩, ⟨"WoundTown$Town", "worksLeft", "(I)I"⟩, ⟨"WoundTown$Town", "isDone", "(I)Z"⟩, ⟨"WoundTown$Town", "hasWork", "(I)Z"⟩, ⟨"WoundTown", "work", "(IIIII)I"⟩, ⟨"WoundTown$Town", "addWork", "(IIIII)I"⟩, ⟨"WoundTown", "at", "(II)I"⟩, ⟨"WoundTown", "terms", "(II)I"⟩, ⟨"WoundTown", "feed", "(IIIII)I"⟩, ⟨"WoundTown$Tape", "hasRoomFor", "(I)Z"⟩, ⟨"WoundTown$Tape", "addNumber", "(I)V"⟩, ⟨"WoundTown", "end", "(I)I"⟩, ⟨"WoundTown", "row", "()I"⟩, ⟨"WoundTown", "addWorkOfRow", "(I)Z"⟩, ⟨"WoundTown$Tape", "byteAt", "(I)I"⟩, ⟨"WoundTown", "dust", "()I"⟩, ⟨"WoundTown", "law", "()I"⟩, ⟨"WoundTown$Reader", "read", "(Z)Z"⟩, ⟨"WoundTown$Text", "clear", "()V"⟩, ⟨"WoundTown$Tape", "rewind", "()V"⟩, ⟨"WoundTown$Tape", "next", "()V"⟩, ⟨"WoundTown$Tape", "kindOf", "(I)I"⟩, ⟨"WoundTown$Reader", "orderClause", "()Z"⟩, ⟨"WoundTown$Tape", "wordIn", "(Ljava/lang/String;)I"⟩, ⟨"java/lang/String", "length", "()I"⟩, ⟨"java/lang/String", "coder", "()B"⟩, ⟨"java/lang/String", "charAt", "(I)C"⟩, ⟨"java/lang/String", "isLatin1", "()Z"⟩, ⟨"java/lang/StringLatin1", "charAt", "([BI)C"⟩, ⟨"java/lang/String", "checkIndex", "(II)V"⟩, ⟨"jdk/internal/util/Preconditions", "checkIndex", "(IILjava/util/function/BiFunction;)I"⟩, ⟨"java/lang/StringUTF16", "charAt", "([BI)C"⟩, ⟨"java/lang/StringUTF16", "checkIndex", "(I[B)V"⟩, ⟨"java/lang/StringUTF16", "length", "([B)I"⟩, ⟨"java/lang/StringUTF16", "getChar", "([BI)C"⟩, ⟨"WoundTown$Text", "isOpened", "(I)Z"⟩, ⟨"WoundTown$Reader", "wholeSum", "([I)Z"⟩, ⟨"WoundTown$Text", "tell", "([II)V"⟩, ⟨"WoundTown$Reader", "sum", "(I)Z"⟩, ⟨"WoundTown$Reader", "term", "(I)Z"⟩, ⟨"WoundTown$Reader", "part", "(I)Z"⟩, ⟨"WoundTown$Tape", "isSign", "(C)Z"⟩, ⟨"WoundTown$Tape", "numberWithin", "(II)I"⟩, ⟨"WoundTown$Text", "add", "(II)I"⟩, ⟨"WoundTown$Reader", "timesOrBy", "()I"⟩, ⟨"WoundTown$Tape", "isWord", "(Ljava/lang/String;)Z"⟩, ⟨"WoundTown$Reader", "repeats", "()Z"⟩, ⟨"WoundTown$Reader", "condition", "()Z"⟩, ⟨"WoundTown$Reader", "test", "(I)Z"⟩, ⟨"WoundTown$Reader", "both", "(I)Z"⟩, ⟨"WoundTown$Reader", "plain", "(I)Z"⟩, ⟨"WoundTown$Reader", "bracketed", "(I)Z"⟩, ⟨"WoundTown$Reader", "comparison", "()I"⟩, ⟨"WoundTown$Text", "leapHere", "(I)V"⟩, ⟨"WoundTown$Reader", "lawClause", "()Z"⟩, ⟨"WoundTown$Text", "copy", "()LWoundTown$Text;"⟩, ⟨"WoundTown", "orders", "()I"⟩, ⟨"WoundTown$Going", "copyFrom", "(LWoundTown$Going;)V"⟩, ⟨"WoundTown$Undo", "copyFrom", "(LWoundTown$Undo;)V"⟩, ⟨"WoundTown", "isClauseRun", "(LWoundTown$Text;I)Z"⟩, ⟨"WoundTown", "tellOrderWords", "()V"⟩, ⟨"WoundTown$Rules", "value", "(LWoundTown$Text;I[I)J"⟩, ⟨"WoundTown", "windBy", "(I)I"⟩, ⟨"WoundTown", "areTurns", "(I)Z"⟩, ⟨"WoundTown$Town", "mostTurns", "(LWoundTown$Going;)I"⟩, ⟨"WoundTown$Undo", "keep", "(ILWoundTown$Going;)V"⟩, ⟨"WoundTown$Going", "keepIn", "([II)V"⟩, ⟨"WoundTown$Rules", "about", "(LWoundTown$Town;LWoundTown$Going;I)V"⟩, ⟨"WoundTown$Town", "lawInForce", "()LWoundTown$Text;"⟩, ⟨"WoundTown$Rules", "wears", "()I"⟩, ⟨"WoundTown$Rules", "tellHour", "(II)V"⟩, ⟨"WoundTown$Rules", "tellPerson", "(III)V"⟩, ⟨"WoundTown$Rules", "told", "(I)J"⟩, ⟨"WoundTown$Rules", "nearest", "(JI)I"⟩, ⟨"java/lang/Math", "min", "(JJ)J"⟩, ⟨"java/lang/Math", "max", "(JJ)J"⟩, ⟨"WoundTown$Going", "windBy", "(II)V"⟩, ⟨"WoundTown$Going", "wear", "(I)V"⟩, ⟨"WoundTown", "keyBy", "(II)I"⟩, ⟨"WoundTown$Rules", "bars", "(III)Z"⟩, ⟨"WoundTown", "runDay", "()I"⟩, ⟨"WoundTown$Day", "runs", "(LWoundTown$Town;LWoundTown$Going;)I"⟩, ⟨"WoundTown$Day", "begin", "(LWoundTown$Town;LWoundTown$Going;I)V"⟩, ⟨"WoundTown$Rules", "runs", "(II)I"⟩, ⟨"java/util/Arrays", "fill", "([II)V"⟩, ⟨"WoundTown$Day", "passHour", "(I)V"⟩, ⟨"WoundTown$Day", "workOf", "(II)I"⟩, ⟨"WoundTown$Day", "isReady", "(II)Z"⟩, ⟨"WoundTown$Rules", "speeds", "(IIIII)I"⟩, ⟨"WoundTown$Going", "sleep", "()V"⟩, ⟨"WoundTown$Day", "isEnding", "(I)Z"⟩, ⟨"WoundTown", "mendBy", "(I)I"⟩, ⟨"WoundTown", "fault", "()I"⟩, ⟨"WoundTown", "stopped", "()I"⟩, ⟨"WoundTown", "force", "(I)I"⟩, ⟨"WoundTown", "asks", "(II)I"⟩, ⟨"WoundTown$Rules", "snaps", "()I"⟩, ⟨"WoundTown", "wind", "(I)I"⟩, ⟨"WoundTown", "settled", "(I)I"⟩, ⟨"WoundTown", "key", "(II)I"⟩, ⟨"WoundTown", "run", "()I"⟩, ⟨"WoundTown", "mend", "(I)I"⟩, ⟨"WoundTown", "undo", "()I"⟩, ⟨"WoundTown$Undo", "takeBack", "(LWoundTown$Going;)I"⟩, ⟨"WoundTown$Going", "takeFrom", "([II)V"⟩, ⟨"WoundTown", "hour", "(III)I"⟩, ⟨"WoundTown$Day", "speed", "(II)I"⟩, ⟨"WoundTown", "ends", "(III)I"⟩, ⟨"WoundTown$Day", "pass", "(LWoundTown$Town;LWoundTown$Going;I)V"⟩, ⟨"WoundTown", "day", "(II)I"⟩, ⟨"WoundTown$Day", "standsFrom", "()I"⟩, ⟨"WoundTown$Day", "worthInTime", "()I"⟩, ⟨"WoundTown$Day", "isInTime", "(I)Z"⟩, ⟨"WoundTown$Day", "leftInTheMiddle", "()I"⟩, ⟨"WoundTown", "least", "(I)I"⟩, ⟨"WoundTown$Day", "areInTime", "(I)Z"⟩, ⟨"WoundTown", "orderly", "(III)I"⟩, ⟨"WoundTown$Orderly", "isFound", "(LWoundTown$Town;LWoundTown$Day;I)Z"⟩, ⟨"WoundTown$Orderly", "begin", "(LWoundTown$Town;LWoundTown$Day;I)V"⟩, ⟨"WoundTown$Orderly", "pass", "(LWoundTown$Town;)V"⟩, ⟨"WoundTown$Orderly", "workOf", "(LWoundTown$Town;I)I"⟩, ⟨"WoundTown$Orderly", "isReady", "(LWoundTown$Town;II)Z"⟩, ⟨"WoundTown$Orderly", "worthInTime", "(LWoundTown$Town;)I"⟩, ⟨"WoundTown$Orderly", "isNextRow", "()Z"⟩, ⟨"WoundTown$Orderly", "exchange", "(II)V"⟩, ⟨"WoundTown", "little", "(II)I"⟩, ⟨"WoundTown", "lasts", "(I)I"⟩, ⟨"WoundTown", "odds", "(II)J"⟩, ⟨"WoundTown", "sight", "(III)I"⟩, ⟨"WoundTown$Town", "addSight", "(III)V"⟩, ⟨"WoundTown", "forget", "()I"⟩, ⟨"WoundTown", "fits", "()I"⟩, ⟨"WoundTown$Day", "areSightsSo", "()Z"⟩, ⟨"WoundTown", "guards", "(I)I"⟩, ⟨"WoundTown$Places", "fewestGuards", "([I)I"⟩, ⟨"java/lang/Integer", "bitCount", "(I)I"⟩, ⟨"WoundTown$Places", "isGuarded", "([II)Z"⟩, ⟨"WoundTown", "round", "(II)I"⟩, ⟨"WoundTown$Places", "measure", "([II)V"⟩, ⟨"WoundTown$Places", "measureWays", "([I)V"⟩, ⟨"WoundTown$Places", "way", "(II)I"⟩, ⟨"WoundTown$Places", "leastOf", "(II)I"⟩, ⟨"WoundTown$Places", "by", "(III)I"⟩, ⟨"WoundTown$Places", "roundOf", "(I)I"⟩, ⟨"WoundTown$Places", "stop", "(II)I"⟩, ⟨"WoundTown$Places", "firstOf", "(II)I"⟩, ⟨"WoundTown", "game", "(I)I"⟩, ⟨"WoundTown", "decade", "(II)I"⟩, ⟨"WoundTown$Decade", "play", "(LWoundTown$Town;LWoundTown$Day;LWoundTown$Rules;II)I"⟩, ⟨"WoundTown$Decade", "windByDraws", "(LWoundTown$Town;LWoundTown$Rules;)V"⟩, ⟨"WoundTown$Decade", "draw", "(I)I"⟩, ⟨"WoundTown", "drawn", "(I)I"⟩, ⟨"WoundTown$Decade", "told", "(I)I"⟩, ⟨"WoundTown", "image", "(I)I"⟩, ⟨"WoundTown$Town", "copyFrom", "(LWoundTown$Town;)V"⟩, ⟨"WoundTown", "back", "(I)I"⟩, ⟨"WoundTown", "count", "(I)I"⟩, ⟨"WoundTown", "status", "()I"⟩, ⟨"WoundTownModel", "<init>", "()V"⟩, ⟨"WoundTownModel", "undo", "()I"⟩, ⟨"WoundTownModel", "tell", "(I)I"⟩, ⟨"WoundTownModel", "putBack", "(I)V"⟩, ⟨"WoundTownModel", "image", "(I)I"⟩, ⟨"WoundTownModel", "in", "(JJJ)Z"⟩, ⟨"WoundTownModel", "back", "(I)I"⟩, ⟨"WoundTownModel", "settled", "(I)I"⟩, ⟨"WoundTownModel", "road", "(III)I"⟩, ⟨"WoundTownModel", "change", "(II)I"⟩, ⟨"WoundTownModel", "person", "(II)I"⟩, ⟨"WoundTownModel", "oil", "(II)I"⟩, ⟨"WoundTownModel", "isPerson", "(I)Z"⟩, ⟨"WoundTownModel", "of", "(II)I"⟩, ⟨"WoundTownModel", "ofPerson", "(II)I"⟩, ⟨"WoundTownModel", "ofWork", "(II)I"⟩, ⟨"WoundTownModel", "isOver", "(I)Z"⟩, ⟨"WoundTownModel", "work", "(IIIII)I"⟩, ⟨"WoundTownModel", "work1", "(IIIII)I"⟩, ⟨"WoundTownModel", "isWork", "(I)Z"⟩, ⟨"WoundTownModel", "at", "(II)I"⟩, ⟨"WoundTownModel", "terms", "(II)I"⟩, ⟨"WoundTownModel", "row", "()I"⟩, ⟨"WoundTownModel", "dust", "()I"⟩, ⟨"WoundTownModel", "feed", "(IIIII)I"⟩, ⟨"WoundTownModel", "four", "(I)V"⟩, ⟨"WoundTownModel", "end", "(I)I"⟩, ⟨"WoundTownModel", "fault", "()I"⟩, ⟨"WoundTownModel", "law", "()I"⟩, ⟨"WoundTownModel", "beginText", "(Z)V"⟩, ⟨"WoundTownModel", "begin", "()V"⟩, ⟨"WoundTownModel", "next", "()V"⟩, ⟨"WoundTownModel", "isSmall", "(I)Z"⟩, ⟨"WoundTownModel", "isDigit", "(I)Z"⟩, ⟨"WoundTownModel", "readLaw", "()V"⟩, ⟨"WoundTownModel", "isWord", "(J)Z"⟩, ⟨"WoundTownModel", "must", "(Z)V"⟩, ⟨"WoundTownModel", "readExpression", "(Z)V"⟩, ⟨"WoundTownModel", "readPlain", "()I"⟩, ⟨"WoundTownModel", "push", "(II)V"⟩, ⟨"WoundTownModel", "isSign", "(I)Z"⟩, ⟨"WoundTownModel", "openBracket", "(I)V"⟩, ⟨"WoundTownModel", "readPart", "()I"⟩, ⟨"WoundTownModel", "orderPartAt", "()I"⟩, ⟨"WoundTownModel", "partAt", "()I"⟩, ⟨"WoundTownModel", "leaf", "(ZII)V"⟩, ⟨"WoundTownModel", "emit", "(II)V"⟩, ⟨"WoundTownModel", "number", "(JJ)I"⟩, ⟨"WoundTownModel", "behindSum", "(Z)I"⟩, ⟨"WoundTownModel", "binds", "(I)I"⟩, ⟨"WoundTownModel", "settle", "(I)V"⟩, ⟨"WoundTownModel", "inner", "()I"⟩, ⟨"WoundTownModel", "isCompared", "()Z"⟩, ⟨"WoundTownModel", "behindTest", "()I"⟩, ⟨"WoundTownModel", "endText", "()V"⟩, ⟨"WoundTownModel", "force", "(I)I"⟩, ⟨"WoundTownModel", "asks", "(II)I"⟩, ⟨"WoundTownModel", "wearsOf", "(I)I"⟩, ⟨"WoundTownModel", "setHour", "(IIII)V"⟩, ⟨"WoundTownModel", "tells", "(IJ)J"⟩, ⟨"WoundTownModel", "today", "()I"⟩, ⟨"WoundTownModel", "isSo", "(I)Z"⟩, ⟨"WoundTownModel", "reckonAll", "(II)V"⟩, ⟨"WoundTownModel", "reckon", "(IJJ)J"⟩, ⟨"WoundTownModel", "within", "(JII)I"⟩, ⟨"WoundTownModel", "snapsOf", "(I)I"⟩, ⟨"WoundTownModel", "hour", "(III)I"⟩, ⟨"WoundTownModel", "layDay", "(I)V"⟩, ⟨"WoundTownModel", "speedsOf", "(IIII)I"⟩, ⟨"WoundTownModel", "pick", "(I)I"⟩, ⟨"WoundTownModel", "canGoOn", "(I)Z"⟩, ⟨"WoundTownModel", "runsOf", "(III)I"⟩, ⟨"WoundTownModel", "ends", "(III)I"⟩, ⟨"WoundTownModel", "day", "(II)I"⟩, ⟨"WoundTownModel", "standsFrom", "()I"⟩, ⟨"WoundTownModel", "isInTime", "(I)Z"⟩, ⟨"WoundTownModel", "least", "(I)I"⟩, ⟨"WoundTownModel", "is", "(II)Z"⟩, ⟨"WoundTownModel", "orderly", "(III)I"⟩, ⟨"WoundTownModel", "isFresh", "(I)Z"⟩, ⟨"WoundTownModel", "weighOrder", "(I)V"⟩, ⟨"WoundTownModel", "little", "(II)I"⟩, ⟨"WoundTownModel", "lasts", "(I)I"⟩, ⟨"WoundTownModel", "keepAll", "(I)V"⟩, ⟨"WoundTownModel", "odds", "(II)J"⟩, ⟨"WoundTownModel", "sight", "(III)I"⟩, ⟨"WoundTownModel", "forget", "()I"⟩, ⟨"WoundTownModel", "fits", "()I"⟩, ⟨"WoundTownModel", "guards", "(I)I"⟩, ⟨"WoundTownModel", "ones", "(I)I"⟩, ⟨"WoundTownModel", "round", "(II)I"⟩, ⟨"WoundTownModel", "findWays", "()V"⟩, ⟨"WoundTownModel", "goRound", "(I)I"⟩, ⟨"WoundTownModel", "game", "(I)I"⟩, ⟨"WoundTownModel", "wind", "(I)I"⟩, ⟨"WoundTownModel", "windNow", "(I)I"⟩, ⟨"WoundTownModel", "remember", "(I)V"⟩, ⟨"WoundTownModel", "wear", "(I)Z"⟩, ⟨"WoundTownModel", "key", "(II)I"⟩, ⟨"WoundTownModel", "keyNow", "(II)I"⟩, ⟨"WoundTownModel", "isBarred", "(II)Z"⟩, ⟨"WoundTownModel", "run", "()I"⟩, ⟨"WoundTownModel", "runNow", "()I"⟩, ⟨"WoundTownModel", "runDay", "()I"⟩, ⟨"WoundTownModel", "mend", "(I)I"⟩, ⟨"WoundTownModel", "mendNow", "(I)I"⟩, ⟨"WoundTownModel", "orders", "()I"⟩, ⟨"WoundTownModel", "readOrder", "()V"⟩, ⟨"WoundTownModel", "readSum", "(I)V"⟩, ⟨"WoundTownModel", "runOne", "(I)I"⟩, ⟨"WoundTownModel", "sumOf", "(I)I"⟩, ⟨"WoundTownModel", "giveBack", "(I)V"⟩, ⟨"WoundTownModel", "stopped", "()I"⟩, ⟨"WoundTownModel", "decade", "(II)I"⟩, ⟨"WoundTownModel", "drawMorning", "()V"⟩, ⟨"WoundTownModel", "draw", "(I)I"⟩, ⟨"WoundTownModel", "drawn", "(I)I"⟩, ⟨"WoundTownModel", "count", "(I)I"⟩, ⟨"WoundTownModel", "status", "()I"⟩]
def zt_mn (k : Nat) : MethodName := zt_ms.getD k ⟨"", "", ""⟩
theorem zt_good : GoodIn zt_TB zt_TB := fun x h => ⟨h, good_of_word (List.mem_filter.mp h).2⟩
/-- the word at a place of the table -/
def zt_wd (i : Nat) (x : Jvm.Cond) : Bool := (match zt_tbl[i]? with
  | some y => decide (y = x)
  | none => false) && goodWord x
theorem zt_wd_mem {i : Nat} {x : Jvm.Cond} (h : zt_wd i x = true) : x ∈ zt_TB := by
  unfold zt_wd at h
  rw [Bool.and_eq_true] at h
  obtain ⟨h1, h2⟩ := h
  split at h1
  · rename_i y hy
    have h1 := of_decide_eq_true h1
    rw [← h1] at h2 ⊢
    exact List.mem_filter.mpr ⟨List.mem_of_getElem? hy, h2⟩
  · cases h1
theorem zt_wd_ok {i : Nat} {x : Jvm.Cond} (h : zt_wd i x = true) {s : State} {args : Array Value} (hts : ∀ x ∈ zt_TB, x.before args s = true) : x.before args s = true := hts x (zt_wd_mem h)
def zt_lb2 (own : String) (r : zk_L × List Nat) : Bool := match zt_cl[r.1.2.2.1]? with
    | some c => decide (r.1.2.2.2.1 < c.2.2) && zt_wd (r.2.getD 0 0) (.fieldLink own r.1.2.1 (c.2.1 r.1.2.2.2.1).1 (c.2.1 r.1.2.2.2.1).2.1 (c.2.1 r.1.2.2.2.1).2.2.1) && (match parseFieldDescriptor (c.2.1 r.1.2.2.2.1).2.2.1 with
      | some ty => decide (zk_tyc ty = r.1.2.2.2.2 % 16)
      | none => false) && decide ((c.2.1 r.1.2.2.2.1).2.2.2 = decide (16 ≤ r.1.2.2.2.2)) && (if 16 ≤ r.1.2.2.2.2 ∧ r.1.2.2.2.2 < 32 then decide ((c.2.1 r.1.2.2.2.1).1 = own) else true)
    | none => false
def zt_lb3 (own : String) (r : zk_L × List Nat) : Bool := match zt_cl[r.1.2.2.1]? with
    | some c => decide (c.2.2 = r.1.2.2.2.1) && zt_wd (r.2.getD 0 0) (.classLink own r.1.2.1 c.1) && zt_wd (r.2.getD 1 0) (.instantiable c.1 r.1.2.2.2.1) && zt_wd (r.2.getD 2 0) (.initialized c.1)
    | none => false
def zt_lb4 (own : String) (r : zk_L × List Nat) : Bool := match zt_cl[r.1.2.2.1]? with
    | some c => zt_wd (r.2.getD 0 0) (.classLink own r.1.2.1 c.1) && zt_wd (r.2.getD 1 0) (.arrayOver (.object c.1))
    | none => false
/-- a link's row holds -/
def zt_lkb (own : String) (r : zk_L × List Nat) : Bool := match r.1.1 with
  | 0 => zt_wd (r.2.getD 0 0) (.constant own r.1.2.1 (Int32.ofInt r.1.2.2.2.2)) && decide (-2147483648 ≤ r.1.2.2.2.2) && decide (r.1.2.2.2.2 ≤ 2147483647)
  | 1 => zt_wd (r.2.getD 0 0) (.constantLong own r.1.2.1 (Int64.ofInt r.1.2.2.2.2)) && decide (-9223372036854775808 ≤ r.1.2.2.2.2) && decide (r.1.2.2.2.2 ≤ 9223372036854775807)
  | 2 => zt_lb2 own r
  | 3 => zt_lb3 own r
  | 4 => zt_lb4 own r
  | 5 => zt_wd (r.2.getD 0 0) (.arrayClass (zk_aty2 r.1.2.2.1))
  | 6 => zt_wd (r.2.getD 0 0) (.methodLink own r.1.2.1 (zk_math r.1.2.2.1).1) && zt_wd (r.2.getD 1 0) (.static (zk_math r.1.2.2.1).1) && zt_wd (r.2.getD 2 0) (.initialized "java/lang/Math") && zt_wd (r.2.getD 3 0) (.code (zk_math r.1.2.2.1).1 (zk_math r.1.2.2.1).2.1 (zk_math r.1.2.2.1).2.2.1 (some (zk_math r.1.2.2.1).2.2.2))
  | 7 => zt_wd (r.2.getD 0 0) (.methodLink own r.1.2.1 objectInit) && zt_wd (r.2.getD 1 0) (.instanceMethod objectInit) && zt_wd (r.2.getD 2 0) (.code objectInit ⟨#[0xb1]⟩ 1 none)
  | 8 => zt_wd (r.2.getD 0 0) (.methodLink own r.1.2.1 arraycopyName) && zt_wd (r.2.getD 1 0) (.native arraycopyName) && zt_wd (r.2.getD 2 0) (.static arraycopyName) && zt_wd (r.2.getD 3 0) (.initialized "java/lang/System")
  | _ => false
theorem zt_lb2_ok {w : zk_W} (hw : w.2.1 = zt_cl) {own : String} {idx a b : Nat} {v : Int} {ps : List Nat} (h : zt_lb2 own ((2, idx, a, b, v), ps) = true) {s : State} {args : Array Value} (hts : ∀ x ∈ zt_TB, x.before args s = true) : zk_lkok w s args own (2, idx, a, b, v) := by
  unfold zt_lb2 at h
  dsimp only at h
  split at h
  · rename_i c hc
    obtain ⟨C, T, n⟩ := c
    simp only [Bool.and_eq_true, decide_eq_true_eq] at h
    obtain ⟨⟨⟨⟨h1, h2⟩, h3⟩, h4⟩, h5⟩ := h
    split at h3
    · rename_i ty hty
      have h3 := of_decide_eq_true h3
      refine ⟨⟨C, T, n, (T b).1, by rw [hw]; exact hc, h1, fun _ z => z, Or.inl (zt_wd_ok h2 hts)⟩, C, T, n, ty, by rw [hw]; exact hc, hty, h3, h4, fun z => ?_⟩
      rw [if_pos z] at h5
      exact of_decide_eq_true h5
    · cases h3
  · cases h
theorem zt_lb3_ok {w : zk_W} (hw : w.2.1 = zt_cl) {own : String} {idx a b : Nat} {v : Int} {ps : List Nat} (h : zt_lb3 own ((3, idx, a, b, v), ps) = true) {s : State} {args : Array Value} (hts : ∀ x ∈ zt_TB, x.before args s = true) : zk_lkok w s args own (3, idx, a, b, v) := by
  unfold zt_lb3 at h
  dsimp only at h
  split at h
  · rename_i c hc
    obtain ⟨C, T, n⟩ := c
    simp only [Bool.and_eq_true, decide_eq_true_eq] at h
    obtain ⟨⟨⟨h1, h2⟩, h3⟩, h4⟩ := h
    subst h1
    exact ⟨C, T, by rw [hw]; exact hc, zt_wd_ok h2 hts, zt_wd_ok h3 hts, zt_wd_ok h4 hts⟩
  · cases h
theorem zt_lb4_ok {w : zk_W} (hw : w.2.1 = zt_cl) {own : String} {idx a b : Nat} {v : Int} {ps : List Nat} (h : zt_lb4 own ((4, idx, a, b, v), ps) = true) {s : State} {args : Array Value} (hts : ∀ x ∈ zt_TB, x.before args s = true) : zk_lkok w s args own (4, idx, a, b, v) := by
  unfold zt_lb4 at h
  dsimp only at h
  split at h
  · rename_i c hc
    obtain ⟨C, T, n⟩ := c
    simp only [Bool.and_eq_true] at h
    exact ⟨C, T, n, by rw [hw]; exact hc, zt_wd_ok h.1 hts, zt_wd_ok h.2 hts⟩
  · cases h
theorem zt_lkb_ok {w : zk_W} (hw : w.2.1 = zt_cl) {own : String} {r : zk_L × List Nat} (h : zt_lkb own r = true) {s : State} {args : Array Value} (hts : ∀ x ∈ zt_TB, x.before args s = true) : zk_lkok w s args own r.1 := by
  obtain ⟨⟨k, idx, a, b, v⟩, ps⟩ := r
  unfold zt_lkb at h
  unfold zk_lkok
  dsimp only at h ⊢
  match k, h with
  | 0, h =>
    simp only [Bool.and_eq_true, decide_eq_true_eq] at h
    exact ⟨zt_wd_ok h.1.1 hts, h.1.2, h.2⟩
  | 1, h =>
    simp only [Bool.and_eq_true, decide_eq_true_eq] at h
    exact ⟨zt_wd_ok h.1.1 hts, h.1.2, h.2⟩
  | 2, h => exact zt_lb2_ok hw h hts
  | 3, h => exact zt_lb3_ok hw h hts
  | 4, h => exact zt_lb4_ok hw h hts
  | 5, h => exact zt_wd_ok h hts
  | 6, h =>
    simp only [Bool.and_eq_true] at h
    exact ⟨zt_wd_ok h.1.1.1 hts, zt_wd_ok h.1.1.2 hts, zt_wd_ok h.1.2 hts, zt_wd_ok h.2 hts⟩
  | 7, h =>
    simp only [Bool.and_eq_true] at h
    exact ⟨zt_wd_ok h.1.1 hts, zt_wd_ok h.1.2 hts, zt_wd_ok h.2 hts⟩
  | 8, h =>
    simp only [Bool.and_eq_true] at h
    exact ⟨zt_wd_ok h.1.1.1 hts, zt_wd_ok h.1.1.2 hts, zt_wd_ok h.1.2 hts, zt_wd_ok h.2 hts⟩
  | k + 9, h => cases h
theorem zt_lks_ok {w : zk_W} (hw : w.2.1 = zt_cl) {own : String} {l : List (zk_L × List Nat)} (h : l.all (zt_lkb own) = true) {s : State} {args : Array Value} (hts : ∀ x ∈ zt_TB, x.before args s = true) : ∀ q ∈ l.map (fun r => r.1), zk_lkok w s args own q := by
  intro q hq
  obtain ⟨r, h1, rfl⟩ := List.mem_map.mp hq
  exact zt_lkb_ok hw (List.all_eq_true.mp h r h1) hts
/-- a call's row holds -/
def zt_lcb (own : String) (r : (Nat × Nat × Nat) × List Nat) : Bool := match r.1.1 with
  | 0 => zt_wd (r.2.getD 0 0) (.methodLink own r.1.2.1 (zt_mn r.1.2.2)) && zt_wd (r.2.getD 1 0) (.initialized (zt_mn r.1.2.2).cls) && zt_wd (r.2.getD 2 0) (.instanceMethod (zt_mn r.1.2.2)) && zt_wd (r.2.getD 3 0) (.selects (zt_mn r.1.2.2).cls (zt_mn r.1.2.2) (zt_mn r.1.2.2))
  | 1 => zt_wd (r.2.getD 0 0) (.methodLink own r.1.2.1 (zt_mn r.1.2.2)) && zt_wd (r.2.getD 1 0) (.initialized (zt_mn r.1.2.2).cls) && zt_wd (r.2.getD 2 0) (.static (zt_mn r.1.2.2))
  | 2 => zt_wd (r.2.getD 0 0) (.methodLink own r.1.2.1 (zt_mn r.1.2.2)) && zt_wd (r.2.getD 1 0) (.initialized (zt_mn r.1.2.2).cls) && zt_wd (r.2.getD 2 0) (.instanceMethod (zt_mn r.1.2.2))
  | _ => false
theorem zt_lcb_ok {own : String} {r : (Nat × Nat × Nat) × List Nat} (h : zt_lcb own r = true) {s : State} {args : Array Value} (hts : ∀ x ∈ zt_TB, x.before args s = true) : zk_lc s args own r.1.1 r.1.2.1 (zt_mn r.1.2.2) := by
  obtain ⟨⟨k, idx, a⟩, ps⟩ := r
  unfold zt_lcb at h
  dsimp only at h ⊢
  match k, h with
  | 0, h =>
    simp only [Bool.and_eq_true] at h
    exact ⟨zt_wd_ok h.1.1.1 hts, zt_wd_ok h.1.1.2 hts, zt_wd_ok h.1.2 hts, zt_wd_ok h.2 hts⟩
  | 1, h =>
    simp only [Bool.and_eq_true] at h
    exact ⟨zt_wd_ok h.1.1 hts, zt_wd_ok h.1.2 hts, zt_wd_ok h.2 hts⟩
  | 2, h =>
    simp only [Bool.and_eq_true] at h
    exact ⟨zt_wd_ok h.1.1 hts, zt_wd_ok h.1.2 hts, zt_wd_ok h.2 hts⟩
  | k + 3, h => cases h
theorem zt_lcs_ok {own : String} {l : List ((Nat × Nat × Nat) × List Nat)} (h : l.all (zt_lcb own) = true) {s : State} {args : Array Value} (hts : ∀ x ∈ zt_TB, x.before args s = true) : ∀ q ∈ l.map (fun r => r.1), zk_lc s args own q.1 q.2.1 (zt_mn q.2.2) := by
  intro q hq
  obtain ⟨r, h1, rfl⟩ := List.mem_map.mp hq
  exact zt_lcb_ok (List.all_eq_true.mp h r h1) hts
end
section
/-! part 24: the links of every class -/
def zt_lk_WoundTown : List (zk_L × List Nat) := [((7, 1, 0, 0, 0), [141, 142, 143]), ((3, 7, 9, 19, 0), [144, 145, 116]), ((2, 138, 2, 0, 34), [159]), ((2, 144, 2, 1, 34), [164]), ((2, 175, 2, 2, 34), [171]), ((2, 283, 2, 3, 0), [175]), ((2, 308, 2, 4, 3), [178]), ((2, 280, 2, 5, 0), [182]), ((2, 178, 2, 6, 0), [186]), ((2, 115, 9, 0, 34), [205]), ((2, 121, 9, 1, 0), [207]), ((2, 141, 9, 2, 34), [210]), ((2, 153, 9, 3, 0), [215]), ((2, 160, 9, 4, 34), [219]), ((2, 163, 9, 5, 34), [223]), ((2, 166, 9, 6, 34), [226]), ((2, 169, 9, 7, 34), [230]), ((2, 172, 9, 8, 34), [235]), ((2, 396, 9, 9, 0), [238]), ((2, 212, 9, 13, 34), [246]), ((2, 205, 9, 14, 0), [248]), ((2, 289, 9, 15, 0), [250]), ((2, 180, 9, 16, 0), [252]), ((2, 183, 9, 17, 0), [255]), ((2, 135, 9, 18, 34), [260]), ((3, 20, 10, 4, 0), [301, 302, 118]), ((2, 437, 10, 3, 0), [311]), ((3, 27, 6, 3, 0), [321, 322, 119]), ((3, 34, 0, 6, 0), [338, 339, 120]), ((2, 344, 0, 3, 34), [348]), ((2, 356, 0, 4, 34), [351]), ((2, 353, 0, 5, 34), [354]), ((3, 43, 3, 7, 0), [368, 369, 121]), ((2, 378, 3, 4, 34), [379]), ((2, 375, 3, 5, 0), [381]), ((2, 373, 3, 6, 0), [383]), ((3, 50, 4, 2, 0), [399, 400, 122]), ((3, 57, 1, 4, 0), [412, 413, 123]), ((3, 64, 7, 6, 0), [433, 434, 124]), ((2, 193, 7, 1, 0), [441]), ((3, 71, 5, 5, 0), [461, 462, 125]), ((2, 243, 8, 0, 34), [481]), ((2, 259, 8, 1, 34), [485]), ((2, 262, 8, 2, 34), [488]), ((2, 246, 8, 3, 34), [491]), ((2, 252, 8, 4, 34), [495]), ((2, 236, 8, 6, 0), [500]), ((2, 216, 5, 1, 34), [522]), ((2, 286, 5, 2, 0), [524]), ((3, 80, 2, 7, 0), [538, 153, 117]), ((2, 10, 11, 0, 18), [540]), ((2, 16, 11, 1, 18), [541]), ((2, 23, 11, 2, 18), [542]), ((2, 30, 11, 3, 18), [543]), ((2, 39, 11, 4, 18), [544]), ((2, 46, 11, 5, 18), [545]), ((2, 53, 11, 6, 18), [546]), ((2, 60, 11, 7, 18), [547]), ((2, 67, 11, 8, 18), [548]), ((2, 76, 11, 9, 18), [549]), ((2, 83, 11, 10, 18), [550]), ((2, 87, 11, 11, 18), [551]), ((2, 90, 11, 12, 18), [552]), ((2, 233, 11, 13, 0), [553]), ((2, 94, 11, 14, 0), [554]), ((2, 98, 11, 15, 0), [555]), ((2, 101, 11, 16, 18), [556]), ((2, 196, 11, 17, 0), [557]), ((2, 438, 11, 18, 0), [558]), ((2, 104, 11, 19, 18), [559]), ((1, 265, 0, 0, (-9000000000)), [914]), ((6, 323, 0, 0, 0), [981, 477, 127, 478]), ((6, 335, 1, 0, 0), [1038, 474, 127, 475]), ((1, 390, 0, 0, (-1)), [1197]), ((1, 392, 0, 0, 1000000000000), [1198]), ((1, 394, 0, 0, 100), [1199]), ((0, 426, 0, 0, 1000000), [1285]), ((5, 1, 1, 0, 0), [203]), ((5, 2, 2, 0, 0), [337]), ((5, 4, 4, 0, 0), [1553]), ((5, 5, 5, 0, 0), [884])]
def zt_lc_WoundTown : List ((Nat × Nat × Nat) × List Nat) := [((2, 9, 1), [146, 116, 147]), ((2, 22, 3), [303, 118, 304]), ((2, 29, 4), [323, 119, 324]), ((2, 36, 5), [340, 120, 341]), ((2, 45, 6), [370, 121, 371]), ((2, 52, 7), [401, 122, 402]), ((2, 59, 8), [414, 123, 415]), ((2, 66, 9), [435, 124, 436]), ((2, 73, 10), [463, 125, 464]), ((2, 82, 2), [539, 117, 155]), ((1, 107, 15), [605, 115, 606]), ((0, 111, 16), [608, 115, 610, 0]), ((0, 118, 17), [612, 115, 614, 1]), ((0, 124, 19), [620, 118, 621, 622]), ((0, 127, 20), [624, 116, 625, 626]), ((0, 131, 22), [632, 116, 633, 634]), ((0, 147, 24), [640, 116, 641, 642]), ((0, 150, 26), [656, 116, 649, 650]), ((0, 156, 28), [657, 116, 658, 659]), ((0, 186, 32), [673, 124, 674, 675]), ((0, 189, 33), [677, 124, 678, 679]), ((0, 199, 36), [689, 115, 691, 2]), ((0, 202, 37), [693, 124, 694, 695]), ((0, 208, 40), [705, 125, 706, 707]), ((0, 220, 78), [875, 126, 876, 877]), ((0, 226, 80), [889, 117, 890, 891]), ((0, 230, 81), [894, 118, 895, 896]), ((0, 239, 82), [899, 115, 901, 17]), ((0, 249, 83), [903, 115, 905, 18]), ((0, 255, 84), [907, 119, 908, 909]), ((0, 267, 85), [915, 115, 917, 19]), ((1, 292, 86), [919, 115, 920]), ((0, 312, 87), [922, 116, 923, 924]), ((0, 316, 88), [926, 118, 927, 928]), ((0, 295, 90), [934, 119, 935, 936]), ((0, 299, 92), [942, 119, 943, 944]), ((0, 320, 99), [968, 117, 969, 970]), ((0, 270, 101), [977, 115, 979, 23]), ((0, 328, 102), [982, 119, 983, 984]), ((0, 273, 103), [986, 115, 988, 24]), ((0, 331, 104), [990, 120, 991, 992]), ((0, 277, 114), [1034, 115, 1036, 29]), ((0, 302, 119), [1055, 119, 1056, 1057]), ((0, 305, 121), [1063, 115, 1065, 30]), ((0, 338, 126), [1083, 118, 1084, 1085]), ((0, 341, 105), [1095, 120, 995, 996]), ((0, 347, 129), [1096, 120, 1097, 1098]), ((0, 350, 131), [1106, 120, 1107, 1108]), ((0, 357, 133), [1114, 120, 1115, 1116]), ((0, 360, 134), [1119, 120, 1120, 1121]), ((0, 363, 136), [1127, 120, 1128, 1129]), ((0, 366, 138), [1135, 120, 1136, 1137]), ((0, 369, 140), [1143, 121, 1144, 1145]), ((0, 381, 25), [1186, 116, 645, 646]), ((0, 384, 135), [1187, 120, 1124, 1125]), ((0, 387, 100), [1192, 117, 973, 974]), ((0, 399, 152), [1204, 116, 1205, 1206]), ((0, 403, 155), [1216, 120, 1217, 1218]), ((0, 407, 157), [1224, 122, 1225, 1226]), ((1, 411, 158), [1237, 135, 1229]), ((0, 416, 161), [1242, 122, 1243, 1244]), ((0, 420, 166), [1265, 122, 1266, 1267]), ((0, 423, 167), [1269, 122, 1270, 1271]), ((0, 427, 171), [1286, 123, 1287, 1288]), ((0, 431, 175), [1311, 123, 1312, 1313]), ((0, 434, 177), [1319, 116, 1320, 1321])]
theorem zt_lk_WoundTown_ok : zt_lk_WoundTown.all (zt_lkb "WoundTown") = true := by decide +kernel
theorem zt_lc_WoundTown_ok : zt_lc_WoundTown.all (zt_lcb "WoundTown") = true := by decide +kernel
-- texts of WoundTown: [([4, 7, 9, 0, 0], [144, 300])]
def zt_lk_WoundTown_Town : List (zk_L × List Nat) := [((7, 3, 0, 0, 0), [149, 142, 143]), ((3, 42, 8, 8, 0), [150, 468, 126]), ((3, 55, 2, 7, 0), [152, 153, 117]), ((2, 97, 2, 0, 34), [161]), ((2, 100, 2, 1, 34), [165]), ((2, 91, 2, 2, 34), [169]), ((2, 103, 2, 6, 0), [187]), ((2, 9, 9, 0, 18), [204]), ((2, 68, 9, 1, 0), [206]), ((2, 15, 9, 2, 18), [209]), ((2, 71, 9, 3, 0), [213]), ((2, 18, 9, 4, 18), [216]), ((2, 21, 9, 5, 18), [220]), ((2, 24, 9, 6, 18), [224]), ((2, 27, 9, 7, 18), [228]), ((2, 30, 9, 8, 18), [232]), ((2, 74, 9, 9, 0), [236]), ((2, 33, 9, 10, 18), [239]), ((2, 36, 9, 11, 18), [241]), ((2, 39, 9, 12, 18), [243]), ((2, 44, 9, 13, 18), [245]), ((2, 77, 9, 14, 0), [247]), ((2, 48, 9, 15, 0), [249]), ((2, 52, 9, 16, 0), [251]), ((2, 80, 9, 17, 0), [254]), ((2, 58, 9, 18, 18), [257]), ((8, 62, 0, 0, 0), [1323, 883, 882, 133]), ((5, 1, 1, 0, 0), [203]), ((5, 2, 2, 0, 0), [337]), ((5, 4, 4, 0, 0), [1553]), ((5, 5, 5, 0, 0), [884])]
def zt_lc_WoundTown_Town : List ((Nat × Nat × Nat) × List Nat) := [((2, 57, 2), [154, 117, 155]), ((0, 94, 25), [644, 116, 645, 646]), ((0, 87, 26), [648, 116, 649, 650]), ((0, 83, 80), [1324, 117, 890, 891])]
theorem zt_lk_WoundTown_Town_ok : zt_lk_WoundTown_Town.all (zt_lkb "WoundTown$Town") = true := by decide +kernel
theorem zt_lc_WoundTown_Town_ok : zt_lc_WoundTown_Town.all (zt_lcb "WoundTown$Town") = true := by decide +kernel
-- texts of WoundTown$Town: [([4, 42, 8, 0, 0], [150, 151])]
def zt_lk_WoundTown_Going : List (zk_L × List Nat) := [((7, 3, 0, 0, 0), [157, 142, 143]), ((2, 9, 2, 0, 18), [158]), ((2, 15, 2, 1, 18), [162]), ((2, 18, 2, 2, 18), [166]), ((2, 21, 2, 3, 0), [172]), ((2, 34, 2, 4, 3), [176]), ((2, 25, 2, 5, 0), [179]), ((2, 38, 2, 6, 0), [185]), ((8, 28, 0, 0, 0), [893, 883, 882, 133]), ((6, 41, 0, 0, 0), [976, 477, 127, 478]), ((5, 1, 1, 0, 0), [203]), ((5, 2, 2, 0, 0), [337]), ((5, 4, 4, 0, 0), [1553]), ((5, 5, 5, 0, 0), [884])]
def zt_lc_WoundTown_Going : List ((Nat × Nat × Nat) × List Nat) := [((0, 47, 100), [972, 117, 973, 974])]
theorem zt_lk_WoundTown_Going_ok : zt_lk_WoundTown_Going.all (zt_lkb "WoundTown$Going") = true := by decide +kernel
theorem zt_lc_WoundTown_Going_ok : zt_lc_WoundTown_Going.all (zt_lcb "WoundTown$Going") = true := by decide +kernel
def zt_lk_WoundTown_Day : List (zk_L × List Nat) := [((2, 93, 2, 0, 34), [160]), ((2, 96, 2, 1, 34), [163]), ((2, 51, 2, 2, 34), [167]), ((2, 73, 2, 5, 0), [181]), ((2, 87, 9, 1, 0), [208]), ((2, 80, 9, 3, 0), [214]), ((2, 109, 9, 4, 34), [218]), ((2, 103, 9, 5, 34), [222]), ((2, 132, 9, 6, 34), [227]), ((2, 138, 9, 7, 34), [231]), ((2, 112, 9, 8, 34), [234]), ((2, 141, 9, 9, 0), [237]), ((2, 144, 9, 10, 34), [240]), ((2, 147, 9, 11, 34), [242]), ((2, 150, 9, 12, 34), [244]), ((2, 29, 9, 18, 34), [256]), ((7, 3, 0, 0, 0), [343, 142, 143]), ((2, 21, 0, 0, 18), [344]), ((2, 25, 0, 1, 2), [345]), ((2, 35, 0, 2, 2), [346]), ((2, 9, 0, 3, 18), [347]), ((2, 15, 0, 4, 18), [349]), ((2, 18, 0, 5, 18), [352]), ((6, 46, 0, 0, 0), [1003, 477, 127, 478]), ((8, 54, 0, 0, 0), [1004, 883, 882, 133]), ((6, 106, 1, 0, 0), [1025, 474, 127, 475]), ((5, 1, 1, 0, 0), [203]), ((5, 2, 2, 0, 0), [337]), ((5, 4, 4, 0, 0), [1553]), ((5, 5, 5, 0, 0), [884])]
def zt_lc_WoundTown_Day : List ((Nat × Nat × Nat) × List Nat) := [((0, 66, 105), [994, 120, 995, 996]), ((0, 36, 90), [998, 119, 935, 936]), ((0, 42, 106), [999, 119, 1000, 1001]), ((1, 60, 107), [1005, 134, 1006]), ((0, 69, 108), [1008, 120, 1010, 25]), ((0, 90, 109), [1012, 120, 1014, 26]), ((0, 115, 110), [1016, 120, 1018, 27]), ((0, 119, 26), [1020, 116, 649, 650]), ((0, 99, 111), [1021, 119, 1022, 1023]), ((0, 77, 112), [1026, 117, 1027, 1028]), ((0, 83, 113), [1030, 120, 1032, 28]), ((0, 126, 22), [1101, 116, 633, 634]), ((0, 129, 129), [1118, 120, 1097, 1098]), ((0, 135, 135), [1123, 120, 1124, 1125])]
theorem zt_lk_WoundTown_Day_ok : zt_lk_WoundTown_Day.all (zt_lkb "WoundTown$Day") = true := by decide +kernel
theorem zt_lc_WoundTown_Day_ok : zt_lc_WoundTown_Day.all (zt_lcb "WoundTown$Day") = true := by decide +kernel
-- nest links of WoundTown$Day: [([4, 122, 15], [1100, 115, 606])]
def zt_lk_WoundTown_Orderly : List (zk_L × List Nat) := [((2, 82, 2, 2, 34), [168]), ((2, 37, 9, 3, 0), [212]), ((2, 40, 9, 4, 34), [217]), ((2, 94, 9, 5, 34), [221]), ((2, 109, 9, 6, 34), [225]), ((2, 112, 9, 7, 34), [229]), ((2, 102, 9, 8, 34), [233]), ((2, 78, 9, 18, 34), [259]), ((2, 85, 0, 4, 34), [350]), ((2, 86, 0, 5, 34), [353]), ((7, 3, 0, 0, 0), [373, 142, 143]), ((2, 11, 3, 0, 18), [374]), ((2, 15, 3, 1, 18), [375]), ((2, 18, 3, 2, 18), [376]), ((2, 21, 3, 3, 18), [377]), ((2, 24, 3, 4, 18), [378]), ((2, 27, 3, 5, 0), [380]), ((2, 53, 3, 6, 0), [382]), ((6, 97, 1, 0, 0), [1167, 474, 127, 475]), ((8, 68, 0, 0, 0), [1172, 883, 882, 133]), ((5, 1, 1, 0, 0), [203]), ((5, 2, 2, 0, 0), [337]), ((5, 4, 4, 0, 0), [1553]), ((5, 5, 5, 0, 0), [884])]
def zt_lc_WoundTown_Orderly : List ((Nat × Nat × Nat) × List Nat) := [((0, 31, 24), [1147, 116, 641, 642]), ((0, 43, 25), [1148, 116, 645, 646]), ((0, 47, 129), [1149, 120, 1097, 1098]), ((0, 56, 141), [1150, 121, 1152, 31]), ((0, 60, 142), [1154, 121, 1156, 32]), ((0, 87, 143), [1158, 121, 1160, 33]), ((0, 91, 26), [1162, 116, 649, 650]), ((0, 105, 144), [1163, 121, 1165, 34]), ((0, 64, 145), [1168, 121, 1170, 35]), ((0, 74, 146), [1173, 121, 1175, 36]), ((0, 114, 147), [1177, 121, 1179, 37])]
theorem zt_lk_WoundTown_Orderly_ok : zt_lk_WoundTown_Orderly.all (zt_lkb "WoundTown$Orderly") = true := by decide +kernel
theorem zt_lc_WoundTown_Orderly_ok : zt_lc_WoundTown_Orderly.all (zt_lcb "WoundTown$Orderly") = true := by decide +kernel
-- nest links of WoundTown$Orderly: [([4, 118, 15], [1181, 115, 606])]
def zt_lk_WoundTown_Decade : List (zk_L × List Nat) := [((2, 91, 2, 2, 34), [170]), ((2, 88, 2, 3, 0), [174]), ((2, 42, 2, 4, 3), [177]), ((2, 39, 2, 5, 0), [180]), ((2, 36, 2, 6, 0), [184]), ((2, 29, 9, 3, 0), [211]), ((2, 22, 9, 18, 34), [258]), ((7, 3, 0, 0, 0), [417, 142, 143]), ((3, 9, 2, 7, 0), [418, 153, 117]), ((2, 12, 1, 0, 18), [420]), ((2, 30, 1, 1, 0), [421]), ((2, 33, 1, 2, 0), [422]), ((2, 18, 1, 3, 0), [423]), ((0, 87, 0, 0, 1000003), [1299]), ((6, 64, 1, 0, 0), [1301, 474, 127, 475]), ((5, 1, 1, 0, 0), [203]), ((5, 2, 2, 0, 0), [337]), ((5, 4, 4, 0, 0), [1553]), ((5, 5, 5, 0, 0), [884])]
def zt_lc_WoundTown_Decade : List ((Nat × Nat × Nat) × List Nat) := [((2, 11, 2), [419, 117, 155]), ((0, 25, 80), [1290, 117, 890, 891]), ((0, 46, 172), [1291, 123, 1293, 43]), ((0, 56, 173), [1295, 123, 1297, 44]), ((0, 60, 87), [1300, 116, 923, 924]), ((0, 70, 90), [1302, 119, 935, 936]), ((0, 76, 119), [1303, 119, 1056, 1057]), ((0, 80, 92), [1304, 119, 943, 944]), ((0, 83, 99), [1305, 117, 969, 970]), ((0, 50, 104), [1306, 120, 991, 992])]
theorem zt_lk_WoundTown_Decade_ok : zt_lk_WoundTown_Decade.all (zt_lkb "WoundTown$Decade") = true := by decide +kernel
theorem zt_lc_WoundTown_Decade_ok : zt_lc_WoundTown_Decade.all (zt_lcb "WoundTown$Decade") = true := by decide +kernel
def zt_lk_WoundTown_Rules : List (zk_L × List Nat) := [((2, 29, 2, 3, 0), [173]), ((2, 35, 2, 6, 0), [183]), ((2, 38, 9, 17, 0), [253]), ((7, 3, 0, 0, 0), [326, 142, 143]), ((2, 11, 6, 0, 18), [327]), ((2, 15, 6, 1, 18), [328]), ((2, 25, 6, 2, 2), [329]), ((2, 73, 8, 0, 34), [480]), ((2, 83, 8, 1, 34), [484]), ((2, 76, 8, 4, 34), [494]), ((2, 86, 8, 5, 34), [497]), ((2, 68, 8, 6, 0), [499]), ((1, 53, 0, 0, (-9000000000)), [911]), ((1, 89, 0, 0, 1000000000), [912]), ((1, 91, 0, 0, (-1000000000)), [913]), ((6, 59, 3, 0, 0), [962, 963, 127, 964]), ((6, 65, 2, 0, 0), [965, 966, 127, 967]), ((5, 1, 1, 0, 0), [203]), ((5, 2, 2, 0, 0), [337]), ((5, 4, 4, 0, 0), [1553]), ((5, 5, 5, 0, 0), [884])]
def zt_lc_WoundTown_Rules : List ((Nat × Nat × Nat) × List Nat) := [((0, 19, 91), [938, 116, 939, 940]), ((0, 41, 93), [946, 119, 948, 20]), ((0, 45, 94), [950, 119, 952, 21]), ((0, 49, 95), [954, 119, 956, 22]), ((0, 79, 84), [958, 119, 908, 909]), ((1, 55, 96), [959, 119, 960])]
theorem zt_lk_WoundTown_Rules_ok : zt_lk_WoundTown_Rules.all (zt_lkb "WoundTown$Rules") = true := by decide +kernel
theorem zt_lc_WoundTown_Rules_ok : zt_lc_WoundTown_Rules.all (zt_lcb "WoundTown$Rules") = true := by decide +kernel
def zt_lk_WoundTown_Undo : List (zk_L × List Nat) := [((7, 3, 0, 0, 0), [306, 142, 143]), ((2, 11, 10, 0, 18), [307]), ((2, 17, 10, 1, 18), [308]), ((2, 24, 10, 2, 0), [309]), ((2, 20, 10, 3, 0), [310]), ((8, 34, 0, 0, 0), [898, 883, 882, 133]), ((5, 1, 1, 0, 0), [203]), ((5, 2, 2, 0, 0), [337]), ((5, 4, 4, 0, 0), [1553]), ((5, 5, 5, 0, 0), [884])]
def zt_lc_WoundTown_Undo : List ((Nat × Nat × Nat) × List Nat) := [((0, 27, 89), [930, 117, 931, 932]), ((0, 31, 127), [1087, 117, 1088, 1089])]
theorem zt_lk_WoundTown_Undo_ok : zt_lk_WoundTown_Undo.all (zt_lkb "WoundTown$Undo") = true := by decide +kernel
theorem zt_lc_WoundTown_Undo_ok : zt_lc_WoundTown_Undo.all (zt_lcb "WoundTown$Undo") = true := by decide +kernel
def zt_lk_WoundTown_Places : List (zk_L × List Nat) := [((7, 5, 0, 0, 0), [404, 142, 143]), ((2, 11, 4, 0, 18), [405]), ((2, 15, 4, 1, 18), [406]), ((0, 39, 0, 0, 1000000), [1250]), ((6, 40, 1, 0, 0), [1255, 474, 127, 475]), ((0, 45, 0, 0, 100000000), [1260]), ((5, 1, 1, 0, 0), [203]), ((5, 2, 2, 0, 0), [337]), ((5, 4, 4, 0, 0), [1553]), ((5, 5, 5, 0, 0), [884])]
def zt_lc_WoundTown_Places : List ((Nat × Nat × Nat) × List Nat) := [((1, 18, 158), [1228, 135, 1229]), ((1, 24, 159), [1234, 122, 1235]), ((0, 28, 162), [1246, 122, 1248, 38]), ((0, 32, 163), [1251, 122, 1253, 39]), ((0, 36, 164), [1256, 122, 1258, 40]), ((0, 46, 165), [1261, 122, 1263, 41]), ((0, 50, 168), [1273, 122, 1275, 42])]
theorem zt_lk_WoundTown_Places_ok : zt_lk_WoundTown_Places.all (zt_lkb "WoundTown$Places") = true := by decide +kernel
theorem zt_lc_WoundTown_Places_ok : zt_lc_WoundTown_Places.all (zt_lcb "WoundTown$Places") = true := by decide +kernel
def zt_lk_WoundTown_Tape : List (zk_L × List Nat) := [((7, 3, 0, 0, 0), [438, 142, 143]), ((2, 11, 7, 0, 18), [439]), ((2, 15, 7, 1, 0), [440]), ((2, 35, 7, 2, 0), [443]), ((2, 29, 7, 3, 0), [445]), ((2, 19, 7, 4, 0), [446]), ((2, 32, 7, 5, 0), [447]), ((6, 54, 1, 0, 0), [815, 474, 127, 475]), ((5, 1, 1, 0, 0), [203]), ((5, 2, 2, 0, 0), [337]), ((5, 4, 4, 0, 0), [1553]), ((5, 5, 5, 0, 0), [884])]
def zt_lc_WoundTown_Tape : List ((Nat × Nat × Nat) × List Nat) := [((0, 22, 43), [717, 124, 718, 719]), ((0, 25, 37), [721, 124, 694, 695]), ((1, 38, 44), [722, 124, 723]), ((0, 45, 47), [734, 129, 735, 736]), ((0, 50, 49), [744, 129, 745, 746]), ((0, 41, 46), [832, 124, 731, 732])]
theorem zt_lk_WoundTown_Tape_ok : zt_lk_WoundTown_Tape.all (zt_lkb "WoundTown$Tape") = true := by decide +kernel
theorem zt_lc_WoundTown_Tape_ok : zt_lc_WoundTown_Tape.all (zt_lcb "WoundTown$Tape") = true := by decide +kernel
-- nest links of WoundTown$Tape: [([4, 60, 15], [816, 115, 606])]
def zt_lk_WoundTown_Reader : List (zk_L × List Nat) := [((2, 50, 7, 2, 0), [442]), ((2, 57, 7, 3, 0), [444]), ((7, 5, 0, 0, 0), [466, 142, 143]), ((3, 11, 8, 8, 0), [467, 468, 126]), ((2, 75, 8, 1, 34), [483]), ((2, 94, 8, 2, 34), [487]), ((2, 106, 8, 3, 34), [490]), ((2, 114, 8, 4, 34), [493]), ((2, 117, 8, 7, 0), [502]), ((2, 24, 5, 0, 18), [520]), ((2, 16, 5, 1, 18), [521]), ((2, 20, 5, 2, 0), [523]), ((2, 28, 5, 3, 3), [525]), ((2, 32, 5, 4, 0), [526]), ((5, 1, 1, 0, 0), [203]), ((5, 2, 2, 0, 0), [337]), ((5, 4, 4, 0, 0), [1553]), ((5, 5, 5, 0, 0), [884])]
def zt_lc_WoundTown_Reader : List ((Nat × Nat × Nat) × List Nat) := [((2, 13, 11), [469, 126, 470]), ((0, 35, 41), [709, 126, 710, 711]), ((0, 38, 42), [713, 124, 714, 715]), ((0, 43, 45), [725, 125, 727, 3]), ((0, 65, 46), [730, 124, 731, 732]), ((0, 69, 58), [782, 126, 783, 784]), ((0, 60, 43), [786, 124, 718, 719]), ((0, 79, 59), [787, 125, 789, 4]), ((0, 108, 60), [791, 126, 792, 793]), ((0, 126, 61), [795, 125, 797, 5]), ((0, 152, 62), [799, 125, 801, 6]), ((0, 155, 63), [803, 125, 805, 7]), ((0, 53, 64), [807, 124, 808, 809]), ((0, 102, 65), [811, 124, 812, 813]), ((0, 123, 66), [819, 126, 820, 821]), ((0, 158, 67), [823, 125, 825, 8]), ((0, 90, 68), [828, 124, 829, 830]), ((0, 97, 69), [833, 125, 835, 9]), ((0, 83, 70), [838, 125, 840, 10]), ((0, 120, 71), [843, 125, 845, 11]), ((0, 129, 72), [847, 125, 849, 12]), ((0, 138, 73), [851, 125, 853, 13]), ((0, 145, 74), [856, 125, 858, 14]), ((0, 148, 75), [860, 125, 862, 15]), ((0, 134, 76), [865, 126, 866, 867]), ((0, 47, 77), [870, 125, 872, 16])]
theorem zt_lk_WoundTown_Reader_ok : zt_lk_WoundTown_Reader.all (zt_lkb "WoundTown$Reader") = true := by decide +kernel
theorem zt_lc_WoundTown_Reader_ok : zt_lc_WoundTown_Reader.all (zt_lcb "WoundTown$Reader") = true := by decide +kernel
-- texts of WoundTown$Reader: [([4, 11, 8, 0, 0], [467, 151]), ([9, 86, 0, 0, 0], ['wind key run mend']), ([9, 161, 0, 0, 0], ['day turns life done ended little left']), ([9, 163, 0, 0, 0], ['turns power hour person oil little life day mood']), ([9, 88, 0, 0, 0], ['by']), ([9, 100, 0, 0, 0], ['times']), ([9, 112, 0, 0, 0], ['if']), ([9, 143, 0, 0, 0], ['not']), ([9, 141, 0, 0, 0], ['and']), ([9, 132, 0, 0, 0], ['or']), ([9, 63, 0, 0, 0], ['runs speeds wears snaps bars'])]
def zt_lk_WoundTown_Text : List (zk_L × List Nat) := [((7, 7, 0, 0, 0), [472, 142, 143]), ((6, 13, 1, 0, 0), [473, 474, 127, 475]), ((6, 19, 0, 0, 0), [476, 477, 127, 478]), ((2, 22, 8, 0, 18), [479]), ((2, 26, 8, 1, 18), [482]), ((2, 29, 8, 2, 18), [486]), ((2, 32, 8, 3, 18), [489]), ((2, 35, 8, 4, 18), [492]), ((2, 38, 8, 5, 18), [496]), ((2, 41, 8, 6, 0), [498]), ((2, 45, 8, 7, 0), [501]), ((3, 3, 8, 8, 0), [879, 468, 126]), ((8, 51, 0, 0, 0), [881, 883, 882, 133]), ((5, 1, 1, 0, 0), [203]), ((5, 2, 2, 0, 0), [337]), ((5, 4, 4, 0, 0), [1553]), ((5, 5, 5, 0, 0), [884])]
def zt_lc_WoundTown_Text : List ((Nat × Nat × Nat) × List Nat) := [((2, 48, 11), [880, 126, 470])]
theorem zt_lk_WoundTown_Text_ok : zt_lk_WoundTown_Text.all (zt_lkb "WoundTown$Text") = true := by decide +kernel
theorem zt_lc_WoundTown_Text_ok : zt_lc_WoundTown_Text.all (zt_lcb "WoundTown$Text") = true := by decide +kernel
-- texts of WoundTown$Text: [([4, 3, 8, 0, 0], [879, 151])]
def zt_lk_java_lang_String : List (zk_L × List Nat) := []
def zt_lc_java_lang_String : List ((Nat × Nat × Nat) × List Nat) := [((0, 335, 48), [738, 129, 739, 740]), ((0, 492, 50), [748, 129, 749, 750]), ((1, 495, 51), [752, 130, 753]), ((1, 1059, 53), [760, 131, 761]), ((1, 498, 54), [763, 132, 764])]
theorem zt_lk_java_lang_String_ok : zt_lk_java_lang_String.all (zt_lkb "java/lang/String") = true := by decide +kernel
theorem zt_lc_java_lang_String_ok : zt_lc_java_lang_String.all (zt_lcb "java/lang/String") = true := by decide +kernel
def zt_lk_java_lang_StringLatin1 : List (zk_L × List Nat) := []
def zt_lc_java_lang_StringLatin1 : List ((Nat × Nat × Nat) × List Nat) := [((1, 9, 52), [755, 129, 756])]
theorem zt_lk_java_lang_StringLatin1_ok : zt_lk_java_lang_StringLatin1.all (zt_lkb "java/lang/StringLatin1") = true := by decide +kernel
theorem zt_lc_java_lang_StringLatin1_ok : zt_lc_java_lang_StringLatin1.all (zt_lcb "java/lang/StringLatin1") = true := by decide +kernel
def zt_lk_java_lang_StringUTF16 : List (zk_L × List Nat) := []
def zt_lc_java_lang_StringUTF16 : List ((Nat × Nat × Nat) × List Nat) := [((1, 67, 55), [766, 132, 767]), ((1, 48, 56), [769, 132, 770]), ((1, 414, 52), [772, 129, 756]), ((1, 71, 57), [773, 132, 774])]
theorem zt_lk_java_lang_StringUTF16_ok : zt_lk_java_lang_StringUTF16.all (zt_lkb "java/lang/StringUTF16") = true := by decide +kernel
theorem zt_lc_java_lang_StringUTF16_ok : zt_lc_java_lang_StringUTF16.all (zt_lcb "java/lang/StringUTF16") = true := by decide +kernel
def zt_lk_java_lang_Integer : List (zk_L × List Nat) := [((0, 265, 0, 0, 1431655765), [1231]), ((0, 266, 0, 0, 858993459), [1232]), ((0, 267, 0, 0, 252645135), [1233]), ((5, 1, 1, 0, 0), [203]), ((5, 2, 2, 0, 0), [337]), ((5, 4, 4, 0, 0), [1553]), ((5, 5, 5, 0, 0), [884])]
def zt_lc_java_lang_Integer : List ((Nat × Nat × Nat) × List Nat) := []
theorem zt_lk_java_lang_Integer_ok : zt_lk_java_lang_Integer.all (zt_lkb "java/lang/Integer") = true := by decide +kernel
theorem zt_lc_java_lang_Integer_ok : zt_lc_java_lang_Integer.all (zt_lcb "java/lang/Integer") = true := by decide +kernel
def zt_lk_WoundTownModel : List (zk_L × List Nat) := [((7, 1, 0, 0, 0), [1342, 142, 143]), ((1, 57, 0, 0, 21678547), [1343]), ((1, 59, 0, 0, 17292466), [1344]), ((1, 61, 0, 0, 278194), [1345]), ((1, 63, 0, 0, 542723566), [1346]), ((1, 65, 0, 0, 15660), [1347]), ((1, 67, 0, 0, 412766597), [1348]), ((1, 69, 0, 0, 402629), [1349]), ((1, 71, 0, 0, 4153), [1350]), ((1, 73, 0, 0, 441828), [1351]), ((1, 79, 0, 0, 146885), [1352]), ((1, 81, 0, 0, 5705892), [1353]), ((1, 83, 0, 0, 398548), [1354]), ((1, 88, 0, 0, 611795), [1355]), ((1, 90, 0, 0, 654480531), [1356]), ((1, 92, 0, 0, 24282707), [1357]), ((1, 94, 0, 0, 20383251), [1358]), ((1, 96, 0, 0, 67155), [1359]), ((2, 161, 12, 0, 0), [1360]), ((2, 164, 12, 1, 0), [1361]), ((2, 7, 12, 2, 18), [1362]), ((2, 13, 12, 3, 18), [1363]), ((2, 16, 12, 4, 18), [1364]), ((2, 19, 12, 5, 18), [1365]), ((2, 23, 12, 6, 18), [1366]), ((2, 26, 12, 7, 18), [1367]), ((2, 167, 12, 8, 0), [1368]), ((2, 29, 12, 9, 18), [1369]), ((2, 32, 12, 10, 18), [1370]), ((2, 231, 12, 11, 0), [1371]), ((2, 35, 12, 12, 18), [1372]), ((2, 228, 12, 13, 0), [1373]), ((2, 247, 12, 14, 0), [1374]), ((2, 237, 12, 15, 0), [1375]), ((2, 260, 12, 16, 0), [1376]), ((2, 250, 12, 17, 1), [1377]), ((2, 38, 12, 18, 0), [1378]), ((2, 240, 12, 19, 3), [1379]), ((2, 319, 12, 20, 3), [1380]), ((2, 371, 12, 21, 0), [1381]), ((2, 42, 12, 22, 18), [1382]), ((2, 279, 12, 23, 0), [1383]), ((2, 45, 12, 24, 18), [1384]), ((2, 48, 12, 25, 18), [1385]), ((2, 310, 12, 26, 0), [1386]), ((2, 51, 12, 27, 18), [1387]), ((2, 54, 12, 28, 18), [1388]), ((2, 282, 12, 29, 0), [1389]), ((2, 304, 12, 30, 0), [1390]), ((2, 75, 12, 31, 18), [1391]), ((2, 85, 12, 32, 18), [1392]), ((2, 98, 12, 33, 18), [1393]), ((2, 391, 12, 34, 0), [1394]), ((2, 101, 12, 35, 18), [1395]), ((2, 104, 12, 36, 18), [1396]), ((2, 107, 12, 37, 18), [1397]), ((2, 388, 12, 38, 3), [1398]), ((2, 402, 12, 39, 1), [1399]), ((2, 408, 12, 40, 1), [1400]), ((2, 110, 12, 41, 18), [1401]), ((2, 113, 12, 42, 18), [1402]), ((2, 116, 12, 43, 18), [1403]), ((2, 119, 12, 44, 18), [1404]), ((2, 122, 12, 45, 18), [1405]), ((2, 125, 12, 46, 18), [1406]), ((2, 128, 12, 47, 0), [1407]), ((2, 131, 12, 48, 18), [1408]), ((2, 439, 12, 49, 0), [1409]), ((2, 134, 12, 50, 18), [1410]), ((2, 137, 12, 51, 18), [1411]), ((2, 140, 12, 52, 18), [1412]), ((2, 472, 12, 53, 0), [1413]), ((2, 143, 12, 54, 18), [1414]), ((2, 146, 12, 55, 18), [1415]), ((2, 149, 12, 56, 18), [1416]), ((2, 540, 12, 57, 0), [1417]), ((2, 543, 12, 58, 0), [1418]), ((2, 152, 12, 59, 0), [1419]), ((2, 537, 12, 60, 3), [1420]), ((2, 558, 12, 61, 1), [1421]), ((2, 155, 12, 62, 18), [1422]), ((2, 158, 12, 63, 0), [1423]), ((1, 192, 0, 0, 7), [1585]), ((1, 194, 0, 0, 99), [1586]), ((1, 199, 0, 0, 9), [1595]), ((1, 205, 0, 0, 3), [1608]), ((1, 213, 0, 0, 600), [1629]), ((1, 215, 0, 0, 23), [1630]), ((1, 224, 0, 0, 5), [1639]), ((1, 226, 0, 0, 999), [1644]), ((1, 263, 0, 0, 32), [1691]), ((1, 265, 0, 0, 96), [1692]), ((1, 267, 0, 0, (-1)), [1693]), ((1, 269, 0, 0, 1000000), [1694]), ((1, 271, 0, 0, 10), [1695]), ((1, 273, 0, 0, 48), [1696]), ((1, 339, 0, 0, 14836), [1717]), ((1, 329, 0, 0, 1000), [1742]), ((1, 292, 0, 0, 20), [1774]), ((1, 294, 0, 0, 24), [1775]), ((1, 296, 0, 0, 25), [1776]), ((1, 298, 0, 0, 27), [1777]), ((1, 354, 0, 0, 1476), [1782]), ((1, 356, 0, 0, 498), [1783]), ((1, 377, 0, 0, 294), [1784]), ((1, 431, 0, 0, 12), [1797]), ((1, 398, 0, 0, (-1000000000)), [1826]), ((1, 400, 0, 0, 1000000000), [1827]), ((1, 421, 0, 0, 60), [1859]), ((0, 456, 0, 0, 100000000), [1860]), ((1, 460, 0, 0, 2), [1869]), ((1, 481, 0, 0, 1000000000000), [1913]), ((1, 483, 0, 0, 100), [1914]), ((1, 488, 0, 0, 255), [1938]), ((1, 517, 0, 0, 9999), [1999]), ((1, 522, 0, 0, 763332), [2008]), ((1, 524, 0, 0, 11449), [2009]), ((1, 526, 0, 0, 19118), [2010]), ((1, 528, 0, 0, 431556), [2011]), ((1, 533, 0, 0, 89), [2016]), ((1, 535, 0, 0, 21279923), [2017]), ((1, 561, 0, 0, 1103), [2046]), ((1, 563, 0, 0, 12345), [2047]), ((1, 565, 0, 0, 1000003), [2048]), ((1, 573, 0, 0, 15), [2057]), ((1, 575, 0, 0, 17), [2058]), ((5, 1, 1, 0, 0), [203]), ((5, 2, 2, 0, 0), [337]), ((5, 4, 4, 0, 0), [1553]), ((5, 5, 5, 0, 0), [884])]
def zt_lc_WoundTownModel : List ((Nat × Nat × Nat) × List Nat) := [((0, 170, 183), [1558, 128, 1560, 45]), ((0, 178, 184), [1562, 128, 1564, 46]), ((1, 181, 186), [1570, 128, 1571]), ((0, 185, 188), [1577, 128, 1579, 47]), ((0, 196, 190), [1587, 128, 1589, 48]), ((0, 201, 193), [1600, 128, 1602, 49]), ((0, 207, 195), [1609, 128, 1611, 50]), ((0, 188, 196), [1613, 128, 1615, 51]), ((0, 210, 197), [1617, 128, 1619, 52]), ((0, 220, 199), [1625, 128, 1627, 53]), ((0, 217, 200), [1631, 128, 1633, 54]), ((0, 234, 206), [1657, 128, 1659, 55]), ((0, 379, 210), [1673, 128, 1675, 56]), ((0, 368, 211), [1677, 128, 1679, 57]), ((0, 244, 212), [1681, 128, 1683, 58]), ((1, 254, 213), [1685, 128, 1686]), ((1, 257, 214), [1688, 128, 1689]), ((0, 382, 215), [1697, 128, 1699, 59]), ((0, 300, 216), [1701, 128, 1703, 60]), ((0, 275, 217), [1705, 128, 1707, 61]), ((0, 374, 218), [1709, 128, 1711, 62]), ((0, 358, 219), [1713, 128, 1715, 63]), ((0, 307, 220), [1718, 128, 1720, 64]), ((0, 313, 221), [1722, 128, 1724, 65]), ((0, 316, 222), [1726, 128, 1728, 66]), ((0, 341, 223), [1730, 128, 1732, 67]), ((0, 322, 224), [1734, 128, 1736, 68]), ((0, 326, 225), [1738, 128, 1740, 69]), ((0, 331, 226), [1743, 128, 1745, 70]), ((0, 288, 227), [1747, 128, 1749, 71]), ((0, 335, 228), [1751, 128, 1753, 72]), ((0, 361, 229), [1755, 128, 1757, 73]), ((1, 285, 230), [1759, 128, 1760]), ((0, 344, 231), [1762, 128, 1764, 74]), ((0, 347, 232), [1766, 128, 1768, 75]), ((0, 350, 233), [1770, 128, 1772, 76]), ((0, 365, 234), [1778, 128, 1780, 77]), ((0, 385, 235), [1785, 128, 1787, 78]), ((0, 433, 238), [1798, 128, 1800, 79]), ((0, 417, 239), [1802, 128, 1804, 80]), ((0, 423, 240), [1806, 128, 1808, 81]), ((0, 411, 241), [1810, 128, 1812, 82]), ((0, 414, 242), [1814, 128, 1816, 83]), ((0, 405, 243), [1818, 128, 1820, 84]), ((0, 394, 244), [1822, 128, 1824, 85]), ((1, 427, 245), [1828, 128, 1829]), ((0, 436, 246), [1831, 128, 1833, 86]), ((0, 457, 248), [1839, 128, 1841, 87]), ((0, 445, 249), [1843, 128, 1845, 88]), ((0, 449, 250), [1847, 128, 1849, 89]), ((0, 442, 251), [1851, 128, 1853, 90]), ((0, 452, 252), [1855, 128, 1857, 91]), ((0, 462, 255), [1870, 128, 1872, 92]), ((0, 465, 256), [1874, 128, 1876, 93]), ((1, 468, 258), [1882, 128, 1883]), ((0, 475, 260), [1889, 128, 1891, 94]), ((0, 478, 261), [1893, 128, 1895, 95]), ((0, 174, 264), [1905, 128, 1907, 96]), ((1, 485, 270), [1931, 128, 1932]), ((0, 490, 272), [1939, 128, 1941, 97]), ((0, 493, 273), [1943, 128, 1945, 98]), ((0, 502, 276), [1955, 128, 1957, 99]), ((0, 496, 277), [1959, 128, 1961, 100]), ((0, 499, 278), [1963, 128, 1965, 101]), ((0, 508, 280), [1971, 128, 1973, 102]), ((0, 505, 281), [1975, 128, 1977, 103]), ((0, 514, 283), [1983, 128, 1985, 104]), ((0, 511, 284), [1987, 128, 1989, 105]), ((0, 519, 286), [1995, 128, 1997, 106]), ((0, 549, 288), [2004, 128, 2006, 107]), ((0, 530, 289), [2012, 128, 2014, 108]), ((0, 552, 290), [2018, 128, 2020, 109]), ((0, 546, 291), [2022, 128, 2024, 110]), ((0, 555, 292), [2026, 128, 2028, 111]), ((0, 570, 295), [2038, 128, 2040, 112]), ((0, 567, 296), [2042, 128, 2044, 113])]
theorem zt_lk_WoundTownModel_ok : zt_lk_WoundTownModel.all (zt_lkb "WoundTownModel") = true := by decide +kernel
theorem zt_lc_WoundTownModel_ok : zt_lc_WoundTownModel.all (zt_lcb "WoundTownModel") = true := by decide +kernel
end
section
/-! part 25: heap types; what is asked of the world -/
def zt_types : List zk_T := [(0, 0, 0, [(2, 6, 0, 0), (2, 10, 0, 0), (2, 2, 0, 0), (2, 14, 0, 0), (2, 15, 0, 0), (2, 16, 0, 0)]),
  (0, 1, 0, [(2, 2, 0, 0), (0, 0, (-2147483648), 2147483647), (0, 0, (-2147483648), 2147483647), (0, 0, (-2147483648), 2147483647)]),
  (0, 2, 0, [(2, 17, 0, 0), (2, 18, 0, 0), (2, 19, 0, 0), (0, 0, (-2147483648), 2147483647), (0, 0, 0, 1), (0, 0, (-2147483648), 2147483647), (0, 0, (-2147483648), 2147483647)]),
  (0, 3, 0, [(2, 20, 0, 0), (2, 21, 0, 0), (2, 22, 0, 0), (2, 23, 0, 0), (2, 24, 0, 0), (0, 0, 0, 6), (0, 0, (-2147483648), 2147483647)]),
  (0, 4, 0, [(2, 25, 0, 0), (2, 26, 0, 0)]),
  (0, 5, 0, [(2, 7, 0, 0), (2, 8, 0, 0), (0, 0, (-2147483648), 2147483647), (0, 0, 0, 1), (0, 0, (-2147483648), 2147483647)]),
  (0, 6, 0, [(2, 27, 0, 0), (2, 28, 0, 0), (2, 9, (-1), 0)]),
  (0, 7, 0, [(2, 29, 0, 0), (0, 0, 0, 400), (0, 0, (-2147483648), 2147483647), (0, 0, (-2147483648), 2147483647), (0, 0, (-2147483648), 2147483647), (0, 0, (-2147483648), 2147483647)]),
  (0, 8, 0, [(2, 30, 0, 0), (2, 31, 0, 0), (2, 32, 0, 0), (2, 33, 0, 0), (2, 34, 0, 0), (2, 35, 0, 0), (0, 0, 0, 12), (0, 0, 0, 872)]),
  (0, 8, 0, [(2, 36, 0, 0), (2, 37, 0, 0), (2, 38, 0, 0), (2, 39, 0, 0), (2, 40, 0, 0), (2, 41, 0, 0), (0, 0, 0, 12), (0, 0, 0, 872)]),
  (0, 9, 0, [(2, 42, 0, 0), (0, 0, 0, 6), (2, 43, 0, 0), (0, 0, 0, 10), (2, 44, 0, 0), (2, 45, 0, 0), (2, 46, 0, 0), (2, 47, 0, 0), (2, 48, 0, 0), (0, 0, 0, 8), (2, 49, 0, 0), (2, 50, 0, 0), (2, 51, 0, 0), (2, 52, 0, 0), (0, 0, 0, 6), (0, 0, (-2147483648), 2147483647), (0, 0, (-2147483648), 2147483647), (0, 0, (-2147483648), 2147483647), (2, 2, 0, 0)]),
  (0, 10, 0, [(2, 53, 0, 0), (2, 54, 0, 0), (0, 0, 0, 15), (0, 0, 0, 16)]),
  (0, 11, 0, [(2, 10, 0, 0), (2, 55, 0, 0), (2, 11, 0, 0), (2, 6, 0, 0), (2, 0, 0, 0), (2, 3, 0, 0), (2, 4, 0, 0), (2, 1, 0, 0), (2, 7, 0, 0), (2, 5, 0, 0), (2, 2, 0, 0), (2, 11, 0, 0), (2, 56, 0, 0), (0, 0, (-2147483648), 2147483647), (0, 0, (-2147483648), 2147483647), (0, 0, (-2147483648), 2147483647), (2, 2, 0, 0), (0, 0, (-2147483648), 2147483647), (0, 0, (-2147483648), 2147483647), (2, 57, 0, 0)]),
  (0, 12, 0, [(0, 0, (-2147483648), 2147483647), (0, 0, (-2147483648), 2147483647), (2, 58, 0, 0), (2, 59, 0, 0), (2, 60, 0, 0), (2, 61, 0, 0), (2, 62, 0, 0), (2, 63, 0, 0), (0, 0, 0, 16), (2, 64, 0, 0), (2, 65, 0, 0), (0, 0, (-2147483648), 2147483647), (2, 66, 0, 0), (0, 0, 0, 400), (0, 0, (-2147483648), 2147483647), (0, 0, 0, 400), (0, 0, (-2147483648), 2147483647), (1, 0, (-9223372036854775808), 9223372036854775807), (0, 0, (-2147483648), 2147483647), (0, 0, 0, 1), (0, 0, 0, 0), (0, 0, 0, 12), (2, 67, 0, 0), (0, 0, 0, 400), (2, 68, 0, 0), (2, 69, 0, 0), (0, 0, (-2147483648), 2147483647), (2, 70, 0, 0), (2, 71, 0, 0), (0, 0, 0, 400), (0, 0, (-2147483648), 2147483647), (2, 72, 0, 0), (2, 73, 0, 0), (2, 74, 0, 0), (0, 0, 0, 4680), (2, 75, 0, 0), (2, 76, 0, 0), (2, 77, 0, 0), (0, 0, 0, 1), (1, 0, (-9223372036854775808), 9223372036854775807), (1, 0, (-9223372036854775808), 9223372036854775807), (2, 78, 0, 0), (2, 79, 0, 0), (2, 80, 0, 0), (2, 81, 0, 0), (2, 82, 0, 0), (2, 83, 0, 0), (0, 0, (-2147483648), 2147483647), (2, 84, 0, 0), (0, 0, 0, 7), (2, 85, 0, 0), (2, 86, 0, 0), (2, 87, 0, 0), (0, 0, (-2147483648), 2147483647), (2, 88, 0, 0), (2, 89, 0, 0), (2, 90, 0, 0), (0, 0, (-2147483648), 2147483647), (0, 0, (-2147483648), 2147483647), (0, 0, (-2147483648), 2147483647), (0, 0, 0, 1), (1, 0, (-9223372036854775808), 9223372036854775807), (2, 91, 0, 0), (0, 0, (-1), 10)]),
  (1, 24, 24, [(0, 0, (-2147483648), 2147483647)]),
  (1, 10, 10, [(0, 0, (-2147483648), 2147483647)]),
  (1, 10, 10, [(0, 0, (-2147483648), 2147483647)]),
  (1, 6, 6, [(0, 0, (-2147483648), 2147483647)]),
  (1, 6, 6, [(0, 0, 0, 9)]),
  (1, 10, 10, [(0, 0, (-2147483648), 2147483647)]),
  (1, 6, 6, [(0, 0, (-2147483648), 2147483647)]),
  (1, 24, 24, [(0, 0, (-2147483648), 2147483647)]),
  (1, 10, 10, [(0, 0, (-2147483648), 2147483647)]),
  (1, 10, 10, [(0, 0, (-2147483648), 2147483647)]),
  (1, 6, 6, [(0, 0, (-2147483648), 2147483647)]),
  (1, 64, 64, [(0, 0, (-2147483648), 2147483647)]),
  (1, 2048, 2048, [(0, 0, (-2147483648), 2147483647)]),
  (1, 9, 9, [(0, 0, (-2147483648), 2147483647)]),
  (2, 64, 64, [(1, 0, (-9223372036854775808), 9223372036854775807)]),
  (1, 400, 400, [(0, 0, (-2147483648), 2147483647)]),
  (1, 12, 12, [(0, 0, (-2147483648), 2147483647)]),
  (1, 12, 12, [(0, 0, (-1), 872)]),
  (1, 12, 12, [(0, 0, (-1), 872)]),
  (1, 12, 12, [(0, 0, (-2147483648), 2147483647)]),
  (1, 12, 12, [(0, 0, (-1), 872)]),
  (1, 872, 872, [(0, 0, (-1000000), 1000000)]),
  (1, 0, 12, [(0, 0, (-2147483648), 2147483647)]),
  (1, 0, 12, [(0, 0, (-1), 872)]),
  (1, 0, 12, [(0, 0, (-1), 872)]),
  (1, 0, 12, [(0, 0, (-2147483648), 2147483647)]),
  (1, 0, 12, [(0, 0, (-1), 872)]),
  (1, 0, 872, [(0, 0, (-1000000), 1000000)]),
  (1, 64, 64, [(0, 0, (-2147483648), 2147483647)]),
  (1, 6, 6, [(0, 0, (-2147483648), 2147483647)]),
  (1, 10, 10, [(0, 0, (-2147483648), 2147483647)]),
  (1, 10, 10, [(0, 0, (-2147483648), 2147483647)]),
  (1, 10, 10, [(0, 0, (-2147483648), 2147483647)]),
  (1, 10, 10, [(0, 0, (-2147483648), 2147483647)]),
  (1, 10, 10, [(0, 0, (-2147483648), 2147483647)]),
  (1, 8, 8, [(0, 0, (-2147483648), 2147483647)]),
  (1, 8, 8, [(0, 0, (-2147483648), 2147483647)]),
  (1, 8, 8, [(0, 0, (-2147483648), 2147483647)]),
  (3, 6, 6, [(2, 9, (-1), 0)]),
  (1, 16, 16, [(0, 0, (-2147483648), 2147483647)]),
  (1, 416, 416, [(9, 26, 0, 0), (0, 6, (-2147483648), 2147483647), (0, 12, 0, 9), (0, 26, (-2147483648), 2147483647)]),
  (3, 2, 2, [(2, 10, (-1), 0)]),
  (1, 21, 21, [(0, 0, (-2147483648), 2147483647)]),
  (1, 5, 5, [(0, 0, (-2147483648), 2147483647)]),
  (1, 7, 7, [(0, 0, (-2147483648), 2147483647)]),
  (1, 5580, 5580, [(9, 5580, 0, 0), (0, 1, 0, 6), (0, 2, 0, 10), (0, 3, 0, 8), (0, 4, 0, 6), (0, 5, (-1), 5), (0, 8, (-2147483648), 2147483647), (0, 9, 0, 9999), (0, 11, (-2147483648), 2147483647), (0, 13, (-2147483648), 2147483647), (0, 14, 0, 9), (0, 16, (-2147483648), 2147483647), (0, 17, 0, 9), (0, 19, (-2147483648), 2147483647), (0, 20, 0, 9), (0, 22, (-2147483648), 2147483647), (0, 23, 0, 9), (0, 25, (-2147483648), 2147483647), (0, 26, 0, 9), (0, 28, (-2147483648), 2147483647), (0, 29, 0, 9), (0, 39, (-2147483648), 2147483647), (0, 40, 0, 5), (0, 43, (-2147483648), 2147483647), (0, 44, (-1), 9), (0, 45, 0, 5), (0, 48, (-2147483648), 2147483647), (0, 49, (-1), 9), (0, 50, 0, 5), (0, 53, (-2147483648), 2147483647), (0, 54, (-1), 9), (0, 55, 0, 5), (0, 58, (-2147483648), 2147483647), (0, 59, (-1), 9), (0, 60, 0, 5), (0, 63, (-2147483648), 2147483647), (0, 64, (-1), 9), (0, 65, 0, 5), (0, 68, (-2147483648), 2147483647), (0, 69, (-1), 9), (0, 70, 0, 5), (0, 73, (-2147483648), 2147483647), (0, 74, (-1), 9), (0, 75, 0, 5), (0, 78, (-2147483648), 2147483647), (0, 79, (-1), 9), (0, 80, 0, 5), (0, 83, (-2147483648), 2147483647), (0, 84, (-1), 9), (0, 85, 0, 5), (0, 88, (-2147483648), 2147483647), (0, 89, (-1), 9), (0, 153, (-2147483648), 2147483647), (0, 154, 0, 9), (0, 155, 0, 23), (0, 156, (-2147483648), 2147483647), (0, 157, 0, 9), (0, 158, 0, 23), (0, 159, (-2147483648), 2147483647), (0, 160, 0, 9), (0, 161, 0, 23), (0, 162, (-2147483648), 2147483647), (0, 163, 0, 9), (0, 164, 0, 23), (0, 165, (-2147483648), 2147483647), (0, 166, 0, 9), (0, 167, 0, 23), (0, 168, (-2147483648), 2147483647), (0, 169, 0, 9), (0, 170, 0, 23), (0, 171, (-2147483648), 2147483647), (0, 172, 0, 9), (0, 173, 0, 23), (0, 174, (-2147483648), 2147483647), (0, 175, 0, 9), (0, 176, 0, 23), (0, 177, (-2147483648), 2147483647), (0, 180, (-2147483648), 2147483647), (0, 181, (-2147483648), 2147483647), (0, 182, 0, 12), (0, 185, (-2147483648), 2147483647), (0, 189, 0, 400), (0, 190, (-2147483648), 2147483647), (0, 193, (-2147483648), 2147483647), (0, 197, 0, 400), (0, 198, (-2147483648), 2147483647), (0, 201, (-2147483648), 2147483647), (0, 205, 0, 400), (0, 206, (-2147483648), 2147483647), (0, 209, (-2147483648), 2147483647), (0, 213, 0, 400), (0, 214, (-2147483648), 2147483647), (0, 217, (-2147483648), 2147483647), (0, 221, 0, 400), (0, 222, (-2147483648), 2147483647), (0, 225, (-2147483648), 2147483647), (0, 229, 0, 400), (0, 230, (-2147483648), 2147483647), (0, 233, (-2147483648), 2147483647), (0, 237, 0, 400), (0, 238, (-2147483648), 2147483647), (0, 241, (-2147483648), 2147483647), (0, 245, 0, 400), (0, 246, (-2147483648), 2147483647), (0, 249, (-2147483648), 2147483647), (0, 253, 0, 400), (0, 254, (-2147483648), 2147483647), (0, 257, (-2147483648), 2147483647), (0, 261, 0, 400), (0, 262, (-2147483648), 2147483647), (0, 265, (-2147483648), 2147483647), (0, 269, 0, 400), (0, 270, (-2147483648), 2147483647), (0, 273, (-2147483648), 2147483647), (0, 277, 0, 400), (0, 278, (-2147483648), 2147483647), (0, 1080, (-2147483648), 2147483647), (0, 1081, (-2147483648), 2147483647), (0, 1082, 0, 12), (0, 1085, (-2147483648), 2147483647), (0, 1089, 0, 400), (0, 1090, (-2147483648), 2147483647), (0, 1093, (-2147483648), 2147483647), (0, 1097, 0, 400), (0, 1098, (-2147483648), 2147483647), (0, 1101, (-2147483648), 2147483647), (0, 1105, 0, 400), (0, 1106, (-2147483648), 2147483647), (0, 1109, (-2147483648), 2147483647), (0, 1113, 0, 400), (0, 1114, (-2147483648), 2147483647), (0, 1117, (-2147483648), 2147483647), (0, 1121, 0, 400), (0, 1122, (-2147483648), 2147483647), (0, 1125, (-2147483648), 2147483647), (0, 1129, 0, 400), (0, 1130, (-2147483648), 2147483647), (0, 1133, (-2147483648), 2147483647), (0, 1137, 0, 400), (0, 1138, (-2147483648), 2147483647), (0, 1141, (-2147483648), 2147483647), (0, 1145, 0, 400), (0, 1146, (-2147483648), 2147483647), (0, 1149, (-2147483648), 2147483647), (0, 1153, 0, 400), (0, 1154, (-2147483648), 2147483647), (0, 1157, (-2147483648), 2147483647), (0, 1161, 0, 400), (0, 1162, (-2147483648), 2147483647), (0, 1165, (-2147483648), 2147483647), (0, 1169, 0, 400), (0, 1170, (-2147483648), 2147483647), (0, 1173, (-2147483648), 2147483647), (0, 1177, 0, 400), (0, 1178, (-2147483648), 2147483647), (0, 1980, (-2147483648), 2147483647), (0, 1981, (-2147483648), 2147483647), (0, 1982, 0, 12), (0, 1985, (-2147483648), 2147483647), (0, 1989, 0, 400), (0, 1990, (-2147483648), 2147483647), (0, 1993, (-2147483648), 2147483647), (0, 1997, 0, 400), (0, 1998, (-2147483648), 2147483647), (0, 2001, (-2147483648), 2147483647), (0, 2005, 0, 400), (0, 2006, (-2147483648), 2147483647), (0, 2009, (-2147483648), 2147483647), (0, 2013, 0, 400), (0, 2014, (-2147483648), 2147483647), (0, 2017, (-2147483648), 2147483647), (0, 2021, 0, 400), (0, 2022, (-2147483648), 2147483647), (0, 2025, (-2147483648), 2147483647), (0, 2029, 0, 400), (0, 2030, (-2147483648), 2147483647), (0, 2033, (-2147483648), 2147483647), (0, 2037, 0, 400), (0, 2038, (-2147483648), 2147483647), (0, 2041, (-2147483648), 2147483647), (0, 2045, 0, 400), (0, 2046, (-2147483648), 2147483647), (0, 2049, (-2147483648), 2147483647), (0, 2053, 0, 400), (0, 2054, (-2147483648), 2147483647), (0, 2057, (-2147483648), 2147483647), (0, 2061, 0, 400), (0, 2062, (-2147483648), 2147483647), (0, 2065, (-2147483648), 2147483647), (0, 2069, 0, 400), (0, 2070, (-2147483648), 2147483647), (0, 2073, (-2147483648), 2147483647), (0, 2077, 0, 400), (0, 2078, (-2147483648), 2147483647), (0, 2880, (-2147483648), 2147483647), (0, 2881, (-2147483648), 2147483647), (0, 2882, 0, 12), (0, 2885, (-2147483648), 2147483647), (0, 2889, 0, 400), (0, 2890, (-2147483648), 2147483647), (0, 2893, (-2147483648), 2147483647), (0, 2897, 0, 400), (0, 2898, (-2147483648), 2147483647), (0, 2901, (-2147483648), 2147483647), (0, 2905, 0, 400), (0, 2906, (-2147483648), 2147483647), (0, 2909, (-2147483648), 2147483647), (0, 2913, 0, 400), (0, 2914, (-2147483648), 2147483647), (0, 2917, (-2147483648), 2147483647), (0, 2921, 0, 400), (0, 2922, (-2147483648), 2147483647), (0, 2925, (-2147483648), 2147483647), (0, 2929, 0, 400), (0, 2930, (-2147483648), 2147483647), (0, 2933, (-2147483648), 2147483647), (0, 2937, 0, 400), (0, 2938, (-2147483648), 2147483647), (0, 2941, (-2147483648), 2147483647), (0, 2945, 0, 400), (0, 2946, (-2147483648), 2147483647), (0, 2949, (-2147483648), 2147483647), (0, 2953, 0, 400), (0, 2954, (-2147483648), 2147483647), (0, 2957, (-2147483648), 2147483647), (0, 2961, 0, 400), (0, 2962, (-2147483648), 2147483647), (0, 2965, (-2147483648), 2147483647), (0, 2969, 0, 400), (0, 2970, (-2147483648), 2147483647), (0, 2973, (-2147483648), 2147483647), (0, 2977, 0, 400), (0, 2978, (-2147483648), 2147483647), (0, 3780, (-2147483648), 2147483647), (0, 3781, (-2147483648), 2147483647), (0, 3782, 0, 12), (0, 3785, (-2147483648), 2147483647), (0, 3789, 0, 400), (0, 3790, (-2147483648), 2147483647), (0, 3793, (-2147483648), 2147483647), (0, 3797, 0, 400), (0, 3798, (-2147483648), 2147483647), (0, 3801, (-2147483648), 2147483647), (0, 3805, 0, 400), (0, 3806, (-2147483648), 2147483647), (0, 3809, (-2147483648), 2147483647), (0, 3813, 0, 400), (0, 3814, (-2147483648), 2147483647), (0, 3817, (-2147483648), 2147483647), (0, 3821, 0, 400), (0, 3822, (-2147483648), 2147483647), (0, 3825, (-2147483648), 2147483647), (0, 3829, 0, 400), (0, 3830, (-2147483648), 2147483647), (0, 3833, (-2147483648), 2147483647), (0, 3837, 0, 400), (0, 3838, (-2147483648), 2147483647), (0, 3841, (-2147483648), 2147483647), (0, 3845, 0, 400), (0, 3846, (-2147483648), 2147483647), (0, 3849, (-2147483648), 2147483647), (0, 3853, 0, 400), (0, 3854, (-2147483648), 2147483647), (0, 3857, (-2147483648), 2147483647), (0, 3861, 0, 400), (0, 3862, (-2147483648), 2147483647), (0, 3865, (-2147483648), 2147483647), (0, 3869, 0, 400), (0, 3870, (-2147483648), 2147483647), (0, 3873, (-2147483648), 2147483647), (0, 3877, 0, 400), (0, 3878, (-2147483648), 2147483647), (0, 4680, (-2147483648), 2147483647), (0, 4681, (-2147483648), 2147483647), (0, 4682, 0, 12), (0, 4685, (-2147483648), 2147483647), (0, 4689, 0, 400), (0, 4690, (-2147483648), 2147483647), (0, 4693, (-2147483648), 2147483647), (0, 4697, 0, 400), (0, 4698, (-2147483648), 2147483647), (0, 4701, (-2147483648), 2147483647), (0, 4705, 0, 400), (0, 4706, (-2147483648), 2147483647), (0, 4709, (-2147483648), 2147483647), (0, 4713, 0, 400), (0, 4714, (-2147483648), 2147483647), (0, 4717, (-2147483648), 2147483647), (0, 4721, 0, 400), (0, 4722, (-2147483648), 2147483647), (0, 4725, (-2147483648), 2147483647), (0, 4729, 0, 400), (0, 4730, (-2147483648), 2147483647), (0, 4733, (-2147483648), 2147483647), (0, 4737, 0, 400), (0, 4738, (-2147483648), 2147483647), (0, 4741, (-2147483648), 2147483647), (0, 4745, 0, 400), (0, 4746, (-2147483648), 2147483647), (0, 4749, (-2147483648), 2147483647), (0, 4753, 0, 400), (0, 4754, (-2147483648), 2147483647), (0, 4757, (-2147483648), 2147483647), (0, 4761, 0, 400), (0, 4762, (-2147483648), 2147483647), (0, 4765, (-2147483648), 2147483647), (0, 4769, 0, 400), (0, 4770, (-2147483648), 2147483647), (0, 4773, (-2147483648), 2147483647), (0, 4777, 0, 400), (0, 4778, (-2147483648), 2147483647), (0, 5580, (-2147483648), 2147483647)]),
  (1, 11160, 11160, [(9, 5580, 0, 0), (0, 1, 0, 6), (0, 2, 0, 10), (0, 3, 0, 8), (0, 4, 0, 6), (0, 5, (-1), 5), (0, 8, (-2147483648), 2147483647), (0, 9, 0, 9999), (0, 11, (-2147483648), 2147483647), (0, 13, (-2147483648), 2147483647), (0, 14, 0, 9), (0, 16, (-2147483648), 2147483647), (0, 17, 0, 9), (0, 19, (-2147483648), 2147483647), (0, 20, 0, 9), (0, 22, (-2147483648), 2147483647), (0, 23, 0, 9), (0, 25, (-2147483648), 2147483647), (0, 26, 0, 9), (0, 28, (-2147483648), 2147483647), (0, 29, 0, 9), (0, 39, (-2147483648), 2147483647), (0, 40, 0, 5), (0, 43, (-2147483648), 2147483647), (0, 44, (-1), 9), (0, 45, 0, 5), (0, 48, (-2147483648), 2147483647), (0, 49, (-1), 9), (0, 50, 0, 5), (0, 53, (-2147483648), 2147483647), (0, 54, (-1), 9), (0, 55, 0, 5), (0, 58, (-2147483648), 2147483647), (0, 59, (-1), 9), (0, 60, 0, 5), (0, 63, (-2147483648), 2147483647), (0, 64, (-1), 9), (0, 65, 0, 5), (0, 68, (-2147483648), 2147483647), (0, 69, (-1), 9), (0, 70, 0, 5), (0, 73, (-2147483648), 2147483647), (0, 74, (-1), 9), (0, 75, 0, 5), (0, 78, (-2147483648), 2147483647), (0, 79, (-1), 9), (0, 80, 0, 5), (0, 83, (-2147483648), 2147483647), (0, 84, (-1), 9), (0, 85, 0, 5), (0, 88, (-2147483648), 2147483647), (0, 89, (-1), 9), (0, 153, (-2147483648), 2147483647), (0, 154, 0, 9), (0, 155, 0, 23), (0, 156, (-2147483648), 2147483647), (0, 157, 0, 9), (0, 158, 0, 23), (0, 159, (-2147483648), 2147483647), (0, 160, 0, 9), (0, 161, 0, 23), (0, 162, (-2147483648), 2147483647), (0, 163, 0, 9), (0, 164, 0, 23), (0, 165, (-2147483648), 2147483647), (0, 166, 0, 9), (0, 167, 0, 23), (0, 168, (-2147483648), 2147483647), (0, 169, 0, 9), (0, 170, 0, 23), (0, 171, (-2147483648), 2147483647), (0, 172, 0, 9), (0, 173, 0, 23), (0, 174, (-2147483648), 2147483647), (0, 175, 0, 9), (0, 176, 0, 23), (0, 177, (-2147483648), 2147483647), (0, 180, (-2147483648), 2147483647), (0, 181, (-2147483648), 2147483647), (0, 182, 0, 12), (0, 185, (-2147483648), 2147483647), (0, 189, 0, 400), (0, 190, (-2147483648), 2147483647), (0, 193, (-2147483648), 2147483647), (0, 197, 0, 400), (0, 198, (-2147483648), 2147483647), (0, 201, (-2147483648), 2147483647), (0, 205, 0, 400), (0, 206, (-2147483648), 2147483647), (0, 209, (-2147483648), 2147483647), (0, 213, 0, 400), (0, 214, (-2147483648), 2147483647), (0, 217, (-2147483648), 2147483647), (0, 221, 0, 400), (0, 222, (-2147483648), 2147483647), (0, 225, (-2147483648), 2147483647), (0, 229, 0, 400), (0, 230, (-2147483648), 2147483647), (0, 233, (-2147483648), 2147483647), (0, 237, 0, 400), (0, 238, (-2147483648), 2147483647), (0, 241, (-2147483648), 2147483647), (0, 245, 0, 400), (0, 246, (-2147483648), 2147483647), (0, 249, (-2147483648), 2147483647), (0, 253, 0, 400), (0, 254, (-2147483648), 2147483647), (0, 257, (-2147483648), 2147483647), (0, 261, 0, 400), (0, 262, (-2147483648), 2147483647), (0, 265, (-2147483648), 2147483647), (0, 269, 0, 400), (0, 270, (-2147483648), 2147483647), (0, 273, (-2147483648), 2147483647), (0, 277, 0, 400), (0, 278, (-2147483648), 2147483647), (0, 1080, (-2147483648), 2147483647), (0, 1081, (-2147483648), 2147483647), (0, 1082, 0, 12), (0, 1085, (-2147483648), 2147483647), (0, 1089, 0, 400), (0, 1090, (-2147483648), 2147483647), (0, 1093, (-2147483648), 2147483647), (0, 1097, 0, 400), (0, 1098, (-2147483648), 2147483647), (0, 1101, (-2147483648), 2147483647), (0, 1105, 0, 400), (0, 1106, (-2147483648), 2147483647), (0, 1109, (-2147483648), 2147483647), (0, 1113, 0, 400), (0, 1114, (-2147483648), 2147483647), (0, 1117, (-2147483648), 2147483647), (0, 1121, 0, 400), (0, 1122, (-2147483648), 2147483647), (0, 1125, (-2147483648), 2147483647), (0, 1129, 0, 400), (0, 1130, (-2147483648), 2147483647), (0, 1133, (-2147483648), 2147483647), (0, 1137, 0, 400), (0, 1138, (-2147483648), 2147483647), (0, 1141, (-2147483648), 2147483647), (0, 1145, 0, 400), (0, 1146, (-2147483648), 2147483647), (0, 1149, (-2147483648), 2147483647), (0, 1153, 0, 400), (0, 1154, (-2147483648), 2147483647), (0, 1157, (-2147483648), 2147483647), (0, 1161, 0, 400), (0, 1162, (-2147483648), 2147483647), (0, 1165, (-2147483648), 2147483647), (0, 1169, 0, 400), (0, 1170, (-2147483648), 2147483647), (0, 1173, (-2147483648), 2147483647), (0, 1177, 0, 400), (0, 1178, (-2147483648), 2147483647), (0, 1980, (-2147483648), 2147483647), (0, 1981, (-2147483648), 2147483647), (0, 1982, 0, 12), (0, 1985, (-2147483648), 2147483647), (0, 1989, 0, 400), (0, 1990, (-2147483648), 2147483647), (0, 1993, (-2147483648), 2147483647), (0, 1997, 0, 400), (0, 1998, (-2147483648), 2147483647), (0, 2001, (-2147483648), 2147483647), (0, 2005, 0, 400), (0, 2006, (-2147483648), 2147483647), (0, 2009, (-2147483648), 2147483647), (0, 2013, 0, 400), (0, 2014, (-2147483648), 2147483647), (0, 2017, (-2147483648), 2147483647), (0, 2021, 0, 400), (0, 2022, (-2147483648), 2147483647), (0, 2025, (-2147483648), 2147483647), (0, 2029, 0, 400), (0, 2030, (-2147483648), 2147483647), (0, 2033, (-2147483648), 2147483647), (0, 2037, 0, 400), (0, 2038, (-2147483648), 2147483647), (0, 2041, (-2147483648), 2147483647), (0, 2045, 0, 400), (0, 2046, (-2147483648), 2147483647), (0, 2049, (-2147483648), 2147483647), (0, 2053, 0, 400), (0, 2054, (-2147483648), 2147483647), (0, 2057, (-2147483648), 2147483647), (0, 2061, 0, 400), (0, 2062, (-2147483648), 2147483647), (0, 2065, (-2147483648), 2147483647), (0, 2069, 0, 400), (0, 2070, (-2147483648), 2147483647), (0, 2073, (-2147483648), 2147483647), (0, 2077, 0, 400), (0, 2078, (-2147483648), 2147483647), (0, 2880, (-2147483648), 2147483647), (0, 2881, (-2147483648), 2147483647), (0, 2882, 0, 12), (0, 2885, (-2147483648), 2147483647), (0, 2889, 0, 400), (0, 2890, (-2147483648), 2147483647), (0, 2893, (-2147483648), 2147483647), (0, 2897, 0, 400), (0, 2898, (-2147483648), 2147483647), (0, 2901, (-2147483648), 2147483647), (0, 2905, 0, 400), (0, 2906, (-2147483648), 2147483647), (0, 2909, (-2147483648), 2147483647), (0, 2913, 0, 400), (0, 2914, (-2147483648), 2147483647), (0, 2917, (-2147483648), 2147483647), (0, 2921, 0, 400), (0, 2922, (-2147483648), 2147483647), (0, 2925, (-2147483648), 2147483647), (0, 2929, 0, 400), (0, 2930, (-2147483648), 2147483647), (0, 2933, (-2147483648), 2147483647), (0, 2937, 0, 400), (0, 2938, (-2147483648), 2147483647), (0, 2941, (-2147483648), 2147483647), (0, 2945, 0, 400), (0, 2946, (-2147483648), 2147483647), (0, 2949, (-2147483648), 2147483647), (0, 2953, 0, 400), (0, 2954, (-2147483648), 2147483647), (0, 2957, (-2147483648), 2147483647), (0, 2961, 0, 400), (0, 2962, (-2147483648), 2147483647), (0, 2965, (-2147483648), 2147483647), (0, 2969, 0, 400), (0, 2970, (-2147483648), 2147483647), (0, 2973, (-2147483648), 2147483647), (0, 2977, 0, 400), (0, 2978, (-2147483648), 2147483647), (0, 3780, (-2147483648), 2147483647), (0, 3781, (-2147483648), 2147483647), (0, 3782, 0, 12), (0, 3785, (-2147483648), 2147483647), (0, 3789, 0, 400), (0, 3790, (-2147483648), 2147483647), (0, 3793, (-2147483648), 2147483647), (0, 3797, 0, 400), (0, 3798, (-2147483648), 2147483647), (0, 3801, (-2147483648), 2147483647), (0, 3805, 0, 400), (0, 3806, (-2147483648), 2147483647), (0, 3809, (-2147483648), 2147483647), (0, 3813, 0, 400), (0, 3814, (-2147483648), 2147483647), (0, 3817, (-2147483648), 2147483647), (0, 3821, 0, 400), (0, 3822, (-2147483648), 2147483647), (0, 3825, (-2147483648), 2147483647), (0, 3829, 0, 400), (0, 3830, (-2147483648), 2147483647), (0, 3833, (-2147483648), 2147483647), (0, 3837, 0, 400), (0, 3838, (-2147483648), 2147483647), (0, 3841, (-2147483648), 2147483647), (0, 3845, 0, 400), (0, 3846, (-2147483648), 2147483647), (0, 3849, (-2147483648), 2147483647), (0, 3853, 0, 400), (0, 3854, (-2147483648), 2147483647), (0, 3857, (-2147483648), 2147483647), (0, 3861, 0, 400), (0, 3862, (-2147483648), 2147483647), (0, 3865, (-2147483648), 2147483647), (0, 3869, 0, 400), (0, 3870, (-2147483648), 2147483647), (0, 3873, (-2147483648), 2147483647), (0, 3877, 0, 400), (0, 3878, (-2147483648), 2147483647), (0, 4680, (-2147483648), 2147483647), (0, 4681, (-2147483648), 2147483647), (0, 4682, 0, 12), (0, 4685, (-2147483648), 2147483647), (0, 4689, 0, 400), (0, 4690, (-2147483648), 2147483647), (0, 4693, (-2147483648), 2147483647), (0, 4697, 0, 400), (0, 4698, (-2147483648), 2147483647), (0, 4701, (-2147483648), 2147483647), (0, 4705, 0, 400), (0, 4706, (-2147483648), 2147483647), (0, 4709, (-2147483648), 2147483647), (0, 4713, 0, 400), (0, 4714, (-2147483648), 2147483647), (0, 4717, (-2147483648), 2147483647), (0, 4721, 0, 400), (0, 4722, (-2147483648), 2147483647), (0, 4725, (-2147483648), 2147483647), (0, 4729, 0, 400), (0, 4730, (-2147483648), 2147483647), (0, 4733, (-2147483648), 2147483647), (0, 4737, 0, 400), (0, 4738, (-2147483648), 2147483647), (0, 4741, (-2147483648), 2147483647), (0, 4745, 0, 400), (0, 4746, (-2147483648), 2147483647), (0, 4749, (-2147483648), 2147483647), (0, 4753, 0, 400), (0, 4754, (-2147483648), 2147483647), (0, 4757, (-2147483648), 2147483647), (0, 4761, 0, 400), (0, 4762, (-2147483648), 2147483647), (0, 4765, (-2147483648), 2147483647), (0, 4769, 0, 400), (0, 4770, (-2147483648), 2147483647), (0, 4773, (-2147483648), 2147483647), (0, 4777, 0, 400), (0, 4778, (-2147483648), 2147483647), (0, 5580, (-2147483648), 2147483647)]),
  (4, 2, 2, [(0, 0, 0, 1)]),
  (1, 612, 612, [(9, 34, 0, 0), (0, 3, (-2147483648), 2147483647), (0, 4, 0, 9999), (0, 6, (-2147483648), 2147483647), (0, 8, (-2147483648), 2147483647), (0, 9, 0, 9), (0, 11, (-2147483648), 2147483647), (0, 12, 0, 9), (0, 14, (-2147483648), 2147483647), (0, 15, 0, 9), (0, 17, (-2147483648), 2147483647), (0, 18, 0, 9), (0, 20, (-2147483648), 2147483647), (0, 21, 0, 9), (0, 23, (-2147483648), 2147483647), (0, 24, 0, 9), (0, 34, (-2147483648), 2147483647)]),
  (1, 16, 16, [(0, 0, 0, 3)]),
  (1, 544, 544, [(9, 34, 0, 0), (0, 3, (-2147483648), 2147483647), (0, 4, 0, 9999), (0, 6, (-2147483648), 2147483647), (0, 8, (-2147483648), 2147483647), (0, 9, 0, 9), (0, 11, (-2147483648), 2147483647), (0, 12, 0, 9), (0, 14, (-2147483648), 2147483647), (0, 15, 0, 9), (0, 17, (-2147483648), 2147483647), (0, 18, 0, 9), (0, 20, (-2147483648), 2147483647), (0, 21, 0, 9), (0, 23, (-2147483648), 2147483647), (0, 24, 0, 9), (0, 34, (-2147483648), 2147483647)]),
  (1, 16, 16, [(0, 0, 0, 3)]),
  (1, 400, 400, [(0, 0, 0, 255)]),
  (1, 96, 96, [(0, 0, (-2147483648), 2147483647)]),
  (1, 400, 400, [(0, 0, (-2147483648), 2147483647)]),
  (1, 400, 400, [(0, 0, (-2147483648), 2147483647)]),
  (1, 400, 400, [(0, 0, (-2147483648), 2147483647)]),
  (1, 400, 400, [(0, 0, (-2147483648), 2147483647)]),
  (2, 9, 9, [(1, 0, (-9223372036854775808), 9223372036854775807)]),
  (2, 7, 7, [(1, 0, (-9223372036854775808), 9223372036854775807)]),
  (2, 5, 5, [(1, 0, (-9223372036854775808), 9223372036854775807)]),
  (2, 13, 13, [(1, 0, (-9223372036854775808), 9223372036854775807)]),
  (2, 13, 13, [(1, 0, (-9223372036854775808), 9223372036854775807)]),
  (2, 400, 400, [(1, 0, (-9223372036854775808), 9223372036854775807)]),
  (1, 24, 24, [(0, 0, (-2147483648), 2147483647)]),
  (1, 144, 144, [(0, 0, (-2147483648), 2147483647)]),
  (1, 240, 240, [(0, 0, (-2147483648), 2147483647)]),
  (1, 10, 10, [(0, 0, (-2147483648), 2147483647)]),
  (1, 10, 10, [(0, 0, (-2147483648), 2147483647)]),
  (4, 10, 10, [(0, 0, 0, 1)]),
  (1, 7, 7, [(0, 0, 0, 9)]),
  (1, 10, 10, [(0, 0, 0, 10)]),
  (1, 7, 7, [(0, 0, (-1), 7)]),
  (1, 7, 7, [(0, 0, (-2147483648), 2147483647)]),
  (1, 64, 64, [(0, 0, (-2147483648), 2147483647)]),
  (1, 16, 16, [(0, 0, (-2147483648), 2147483647)]),
  (1, 96, 96, [(0, 0, (-2147483648), 2147483647)]),
  (1, 14, 14, [(0, 0, (-2147483648), 2147483647)]),
  (0, 12, 0, [(0, 0, (-2147483648), 2147483647), (0, 0, (-2147483648), 2147483647), (2, 58, 0, 0), (2, 59, 0, 0), (2, 60, 0, 0), (2, 61, 0, 0), (2, 62, 0, 0), (2, 63, 0, 0), (0, 0, 0, 16), (2, 64, 0, 0), (2, 65, 0, 0), (0, 0, (-2147483648), 2147483647), (2, 66, 0, 0), (0, 0, 0, 400), (0, 0, (-2147483648), 2147483647), (0, 0, 0, 400), (0, 0, (-2147483648), 2147483647), (1, 0, (-9223372036854775808), 9223372036854775807), (0, 0, (-2147483648), 2147483647), (0, 0, 0, 1), (0, 0, 0, 1), (0, 0, 0, 12), (2, 67, 0, 0), (0, 0, 0, 400), (2, 68, 0, 0), (2, 69, 0, 0), (0, 0, (-2147483648), 2147483647), (2, 70, 0, 0), (2, 71, 0, 0), (0, 0, 0, 400), (0, 0, (-2147483648), 2147483647), (2, 72, 0, 0), (2, 73, 0, 0), (2, 74, 0, 0), (0, 0, 0, 4680), (2, 75, 0, 0), (2, 76, 0, 0), (2, 77, 0, 0), (0, 0, 0, 1), (1, 0, (-9223372036854775808), 9223372036854775807), (1, 0, (-9223372036854775808), 9223372036854775807), (2, 78, 0, 0), (2, 79, 0, 0), (2, 80, 0, 0), (2, 81, 0, 0), (2, 82, 0, 0), (2, 83, 0, 0), (0, 0, (-2147483648), 2147483647), (2, 84, 0, 0), (0, 0, 0, 7), (2, 85, 0, 0), (2, 86, 0, 0), (2, 87, 0, 0), (0, 0, (-2147483648), 2147483647), (2, 88, 0, 0), (2, 89, 0, 0), (2, 90, 0, 0), (0, 0, (-2147483648), 2147483647), (0, 0, (-2147483648), 2147483647), (0, 0, (-2147483648), 2147483647), (0, 0, 0, 1), (1, 0, (-9223372036854775808), 9223372036854775807), (2, 91, 0, 0), (0, 0, (-1), 10)])]
def zt_dv : List (List zk_S) := [[(2, 0), (2, 0), (2, 0), (2, 0), (2, 0), (2, 0)], [(2, 0), (0, 0), (0, 0), (0, 0)], [(2, 0), (2, 0), (2, 0), (0, 0), (0, 0), (0, 0), (0, 0)], [(2, 0), (2, 0), (2, 0), (2, 0), (2, 0), (0, 0), (0, 0)], [(2, 0), (2, 0)], [(2, 0), (2, 0), (0, 0), (0, 0), (0, 0)], [(2, 0), (2, 0), (2, 0)], [(2, 0), (0, 0), (0, 0), (0, 0), (0, 0), (0, 0)], [(2, 0), (2, 0), (2, 0), (2, 0), (2, 0), (2, 0), (0, 0), (0, 0)], [(2, 0), (0, 0), (2, 0), (0, 0), (2, 0), (2, 0), (2, 0), (2, 0), (2, 0), (0, 0), (2, 0), (2, 0), (2, 0), (2, 0), (0, 0), (0, 0), (0, 0), (0, 0), (2, 0)], [(2, 0), (2, 0), (0, 0), (0, 0)], [(2, 0), (2, 0), (2, 0), (2, 0), (2, 0), (2, 0), (2, 0), (2, 0), (2, 0), (2, 0), (2, 0), (2, 0), (2, 0), (0, 0), (0, 0), (0, 0), (2, 0), (0, 0), (0, 0), (2, 0)], [(0, 0), (0, 0), (2, 0), (2, 0), (2, 0), (2, 0), (2, 0), (2, 0), (0, 0), (2, 0), (2, 0), (0, 0), (2, 0), (0, 0), (0, 0), (0, 0), (0, 0), (1, 0), (0, 0), (0, 0), (0, 0), (0, 0), (2, 0), (0, 0), (2, 0), (2, 0), (0, 0), (2, 0), (2, 0), (0, 0), (0, 0), (2, 0), (2, 0), (2, 0), (0, 0), (2, 0), (2, 0), (2, 0), (0, 0), (1, 0), (1, 0), (2, 0), (2, 0), (2, 0), (2, 0), (2, 0), (2, 0), (0, 0), (2, 0), (0, 0), (2, 0), (2, 0), (2, 0), (0, 0), (2, 0), (2, 0), (2, 0), (0, 0), (0, 0), (0, 0), (0, 0), (1, 0), (2, 0), (0, 0)]]
def zt_lays : List (List Nat) := [[355, 357, 359, 361, 363, 365], [424, 426, 428, 430], [188, 190, 192, 194, 196, 198, 200], [384, 386, 388, 390, 392, 394, 396], [407, 409], [527, 529, 531, 533, 535], [330, 332, 334], [448, 450, 452, 454, 456, 458], [503, 505, 507, 509, 511, 513, 515, 517], [261, 263, 265, 267, 269, 271, 273, 275, 277, 279, 281, 283, 285, 287, 289, 291, 293, 295, 297], [312, 314, 316, 318], [560, 562, 564, 566, 568, 570, 572, 574, 576, 578, 580, 582, 584, 586, 588, 590, 592, 594, 596, 598], [1424, 1426, 1428, 1430, 1432, 1434, 1436, 1438, 1440, 1442, 1444, 1446, 1448, 1450, 1452, 1454, 1456, 1458, 1460, 1462, 1464, 1466, 1468, 1470, 1472, 1474, 1476, 1478, 1480, 1482, 1484, 1486, 1488, 1490, 1492, 1494, 1496, 1498, 1500, 1502, 1504, 1506, 1508, 1510, 1512, 1514, 1516, 1518, 1520, 1522, 1524, 1526, 1528, 1530, 1532, 1534, 1536, 1538, 1540, 1542, 1544, 1546, 1548, 1550]]
/-- a class's words -/
def zt_clsb (ci : Nat) : Bool := match zt_cl[ci]?, zt_lays[ci]?, zt_dv[ci]? with
  | some c, some ps, some ds => decide (ps.length = c.2.2) && (List.range c.2.2).all (fun k => zt_wd (ps.getD k 0) (u_lay c.1 c.2.1 k)) && (List.range c.2.2).all (fun a => (List.range a).all (fun b => (c.2.1 a).2.1 != (c.2.1 b).2.1)) && decide (ds.length = c.2.2) && (List.range c.2.2).all (fun k => match parseFieldDescriptor (c.2.1 k).2.2.1 with
    | some ty => decide (ds[k]? = some (zk_dk ty, 0)) && decide (zk_tyc ty ≠ 9)
    | none => false)
  | _, _, _ => false
theorem zt_cls_all : (List.range zt_cl.length).all zt_clsb = true := by decide +kernel
theorem zt_cls1 {ci : Nat} {C : String} {T : u_T} {N : Nat} (h : zt_cl[ci]? = some (C, T, N)) : ∃ ps ds, zt_dv[ci]? = some ds ∧ (ps : List Nat).length = N ∧ (∀ k, k < N → zt_wd (ps.getD k 0) (u_lay C T k) = true) ∧ (∀ a, a < N → ∀ b, b < a → (T a).2.1 ≠ (T b).2.1) ∧ ds.length = N ∧ ∀ k, k < N → ∃ ty, parseFieldDescriptor (T k).2.2.1 = some ty ∧ ds[k]? = some (zk_dk ty, 0) ∧ zk_tyc ty ≠ 9 := by
  have h1 := List.all_eq_true.mp zt_cls_all ci (List.mem_range.mpr (List.getElem?_eq_some_iff.mp h).1)
  unfold zt_clsb at h1
  rw [h] at h1
  split at h1
  · rename_i c ps ds e1 e2 e3
    cases e1
    simp only [Bool.and_eq_true, decide_eq_true_eq] at h1
    obtain ⟨⟨⟨⟨h1, h2⟩, h3⟩, h4⟩, h5⟩ := h1
    refine ⟨ps, ds, e3, h1, fun k hk => List.all_eq_true.mp h2 k (List.mem_range.mpr hk), fun a ha b hb => ?_, h4, fun k hk => ?_⟩
    · have := List.all_eq_true.mp (List.all_eq_true.mp h3 a (List.mem_range.mpr ha)) b (List.mem_range.mpr hb)
      simpa using this
    · have h6 := List.all_eq_true.mp h5 k (List.mem_range.mpr hk)
      split at h6
      · rename_i ty hty
        rw [Bool.and_eq_true, decide_eq_true_eq, decide_eq_true_eq] at h6
        exact ⟨ty, hty, h6.1, h6.2⟩
      · cases h6
  · cases h1
theorem zt_dvok {w : zk_W} (hw : w.2.1 = zt_cl) : zk_dvok w zt_dv := by
  intro ci C T N h
  rw [hw] at h
  obtain ⟨ps, ds, h1, h2, h3, h4, h5, h6⟩ := zt_cls1 h
  refine ⟨ds, h1, h5, fun j ty hj hp => ?_⟩
  obtain ⟨ty', e1, e2, e3⟩ := h6 j hj
  rw [hp] at e1
  cases e1
  exact ⟨e2, e3⟩
theorem zt_clsok {w : zk_W} (hw : w.2.1 = zt_cl) : zk_cls w zt_TB := by
  intro ci C T N h
  rw [hw] at h
  obtain ⟨ps, ds, h1, h2, h3, h4, h5, h6⟩ := zt_cls1 h
  refine ⟨fun x hx => ?_, fun a ha b hb hne => ?_, fun k => ((parseFieldDescriptor (T k).2.2.1).getD .int), fun k hk => ?_⟩
  · obtain ⟨k, hk, rfl⟩ := List.mem_map.mp hx
    exact zt_wd_mem (h3 k (List.mem_range.mp hk))
  · rcases Nat.lt_or_gt_of_ne hne with h | h
    · exact fun e => h4 b hb a h e.symm
    · exact h4 a ha b h
  · obtain ⟨ty, e1, -⟩ := h6 k hk
    dsimp only
    rw [e1]
    rfl
/-- text constants: owner, place in the pool, type, text -/
def zt_tx : List (String × Nat × Nat × String) := [("WoundTown$Reader", 86, 200, "wind key run mend"), ("WoundTown$Reader", 161, 201, "day turns life done ended little left"), ("WoundTown$Reader", 163, 202, "turns power hour person oil little life day mood"), ("WoundTown$Reader", 88, 203, "by"), ("WoundTown$Reader", 100, 204, "times"), ("WoundTown$Reader", 112, 205, "if"), ("WoundTown$Reader", 143, 206, "not"), ("WoundTown$Reader", 141, 207, "and"), ("WoundTown$Reader", 132, 208, "or"), ("WoundTown$Reader", 63, 209, "runs speeds wears snaps bars")]
def zt_ne : List (String × Nat × Nat) := [("WoundTown$Day", 122, 15), ("WoundTown$Orderly", 118, 15), ("WoundTown$Tape", 60, 15)]
def zt_ao : List String := ["WoundTown$Text", "WoundTown$Town"]
theorem zt_ne_w : (zt_wd 115 (.initialized (zt_mn 15).cls) && zt_wd 606 (.static (zt_mn 15))) = true := by decide +kernel
/-- what is asked of the world -/
def zh_W (w : zk_W) : Prop := w.1 = zt_types ∧ w.2.1 = zt_cl ∧ zk_stab w ∧ (∀ s : State, w.2.2.2.2.2 s → ∀ q ∈ zt_tx, ∃ a, w.2.2.2.2.1 q.2.2.1 a ∧ vk_R q.1 q.2.1 q.2.2.2 a s) ∧ (∀ s : State, w.2.2.2.2.2 s → ∀ q ∈ zt_ne, ∃ host, va_Nw (.methodLinkNest q.1 q.2.1 (zt_mn q.2.2) host) s) ∧ (∀ s : State, w.2.2.2.2.2 s → ∀ C ∈ zt_ao, va_AO C s) ∧ ∀ t a, w.2.2.2.2.1 t a → 200 ≤ t
def zt_fb (own : String) (r : zk_L × List Nat) : Bool := match zt_cl[r.1.2.2.1]? with
    | some c => zt_ao.contains c.1 && (r.1.1 == 4 && zt_wd (r.2.getD 0 0) (.classLink own r.1.2.1 c.1))
    | none => false
theorem zt_fb_ok {w : zk_W} (hW : zh_W w) {own : String} {r : zk_L × List Nat} (h : zt_fb own r = true) {s : State} {args : Array Value} (hZ : w.2.2.2.2.2 s) (hts : ∀ x ∈ zt_TB, x.before args s = true) : zk_lkok w s args own r.1 := by
  obtain ⟨⟨k, idx, a, b, v⟩, ps⟩ := r
  unfold zt_fb at h
  dsimp only at h
  split at h
  · rename_i c hc
    obtain ⟨C, T, n⟩ := c
    rw [Bool.and_eq_true, Bool.and_eq_true, beq_iff_eq] at h
    obtain ⟨h1, h2, h3⟩ := h
    dsimp only at h1 h2 h3 ⊢
    subst h2
    exact ⟨C, T, n, by rw [hW.2.1]; exact hc, zt_wd_ok h3 hts, (hW.2.2.2.2.2.1 s hZ C (List.contains_iff_mem.mp h1)).use⟩
  · cases h
def zt_fours (own : String) : List (zk_L × List Nat) := if own = "WoundTown" then [((4, 7, 9, 0, 0), [144, 300])] else if own = "WoundTown$Town" then [((4, 42, 8, 0, 0), [150, 151])] else []
theorem zt_four_WoundTown : (zt_fours "WoundTown").all (zt_fb "WoundTown") = true := by decide +kernel
theorem zt_four_WoundTown_Town : (zt_fours "WoundTown$Town").all (zt_fb "WoundTown$Town") = true := by decide +kernel
def zt_lks (own : String) : List (zk_L × List Nat) := if own = "WoundTown" then zt_lk_WoundTown else if own = "WoundTown$Town" then zt_lk_WoundTown_Town else if own = "WoundTown$Going" then zt_lk_WoundTown_Going else if own = "WoundTown$Day" then zt_lk_WoundTown_Day else if own = "WoundTown$Orderly" then zt_lk_WoundTown_Orderly else if own = "WoundTown$Decade" then zt_lk_WoundTown_Decade else if own = "WoundTown$Rules" then zt_lk_WoundTown_Rules else if own = "WoundTown$Undo" then zt_lk_WoundTown_Undo else if own = "WoundTown$Places" then zt_lk_WoundTown_Places else if own = "WoundTown$Tape" then zt_lk_WoundTown_Tape else if own = "WoundTown$Reader" then zt_lk_WoundTown_Reader else if own = "WoundTown$Text" then zt_lk_WoundTown_Text else if own = "java/lang/String" then zt_lk_java_lang_String else if own = "java/lang/StringLatin1" then zt_lk_java_lang_StringLatin1 else if own = "java/lang/StringUTF16" then zt_lk_java_lang_StringUTF16 else if own = "java/lang/Integer" then zt_lk_java_lang_Integer else if own = "WoundTownModel" then zt_lk_WoundTownModel else []
def zt_lcs (own : String) : List ((Nat × Nat × Nat) × List Nat) := if own = "WoundTown" then zt_lc_WoundTown else if own = "WoundTown$Town" then zt_lc_WoundTown_Town else if own = "WoundTown$Going" then zt_lc_WoundTown_Going else if own = "WoundTown$Day" then zt_lc_WoundTown_Day else if own = "WoundTown$Orderly" then zt_lc_WoundTown_Orderly else if own = "WoundTown$Decade" then zt_lc_WoundTown_Decade else if own = "WoundTown$Rules" then zt_lc_WoundTown_Rules else if own = "WoundTown$Undo" then zt_lc_WoundTown_Undo else if own = "WoundTown$Places" then zt_lc_WoundTown_Places else if own = "WoundTown$Tape" then zt_lc_WoundTown_Tape else if own = "WoundTown$Reader" then zt_lc_WoundTown_Reader else if own = "WoundTown$Text" then zt_lc_WoundTown_Text else if own = "java/lang/String" then zt_lc_java_lang_String else if own = "java/lang/StringLatin1" then zt_lc_java_lang_StringLatin1 else if own = "java/lang/StringUTF16" then zt_lc_java_lang_StringUTF16 else if own = "java/lang/Integer" then zt_lc_java_lang_Integer else if own = "WoundTownModel" then zt_lc_WoundTownModel else []
theorem zt_lks_all (own : String) : (zt_lks own).all (zt_lkb own) = true := by
  unfold zt_lks
  by_cases h0 : own = "WoundTown"
  · subst h0
    exact zt_lk_WoundTown_ok
  rw [if_neg h0]
  by_cases h1 : own = "WoundTown$Town"
  · subst h1
    exact zt_lk_WoundTown_Town_ok
  rw [if_neg h1]
  by_cases h2 : own = "WoundTown$Going"
  · subst h2
    exact zt_lk_WoundTown_Going_ok
  rw [if_neg h2]
  by_cases h3 : own = "WoundTown$Day"
  · subst h3
    exact zt_lk_WoundTown_Day_ok
  rw [if_neg h3]
  by_cases h4 : own = "WoundTown$Orderly"
  · subst h4
    exact zt_lk_WoundTown_Orderly_ok
  rw [if_neg h4]
  by_cases h5 : own = "WoundTown$Decade"
  · subst h5
    exact zt_lk_WoundTown_Decade_ok
  rw [if_neg h5]
  by_cases h6 : own = "WoundTown$Rules"
  · subst h6
    exact zt_lk_WoundTown_Rules_ok
  rw [if_neg h6]
  by_cases h7 : own = "WoundTown$Undo"
  · subst h7
    exact zt_lk_WoundTown_Undo_ok
  rw [if_neg h7]
  by_cases h8 : own = "WoundTown$Places"
  · subst h8
    exact zt_lk_WoundTown_Places_ok
  rw [if_neg h8]
  by_cases h9 : own = "WoundTown$Tape"
  · subst h9
    exact zt_lk_WoundTown_Tape_ok
  rw [if_neg h9]
  by_cases h10 : own = "WoundTown$Reader"
  · subst h10
    exact zt_lk_WoundTown_Reader_ok
  rw [if_neg h10]
  by_cases h11 : own = "WoundTown$Text"
  · subst h11
    exact zt_lk_WoundTown_Text_ok
  rw [if_neg h11]
  by_cases h12 : own = "java/lang/String"
  · subst h12
    exact zt_lk_java_lang_String_ok
  rw [if_neg h12]
  by_cases h13 : own = "java/lang/StringLatin1"
  · subst h13
    exact zt_lk_java_lang_StringLatin1_ok
  rw [if_neg h13]
  by_cases h14 : own = "java/lang/StringUTF16"
  · subst h14
    exact zt_lk_java_lang_StringUTF16_ok
  rw [if_neg h14]
  by_cases h15 : own = "java/lang/Integer"
  · subst h15
    exact zt_lk_java_lang_Integer_ok
  rw [if_neg h15]
  by_cases h16 : own = "WoundTownModel"
  · subst h16
    exact zt_lk_WoundTownModel_ok
  rw [if_neg h16]
  rfl
theorem zt_lcs_all (own : String) : (zt_lcs own).all (zt_lcb own) = true := by
  unfold zt_lcs
  by_cases h0 : own = "WoundTown"
  · subst h0
    exact zt_lc_WoundTown_ok
  rw [if_neg h0]
  by_cases h1 : own = "WoundTown$Town"
  · subst h1
    exact zt_lc_WoundTown_Town_ok
  rw [if_neg h1]
  by_cases h2 : own = "WoundTown$Going"
  · subst h2
    exact zt_lc_WoundTown_Going_ok
  rw [if_neg h2]
  by_cases h3 : own = "WoundTown$Day"
  · subst h3
    exact zt_lc_WoundTown_Day_ok
  rw [if_neg h3]
  by_cases h4 : own = "WoundTown$Orderly"
  · subst h4
    exact zt_lc_WoundTown_Orderly_ok
  rw [if_neg h4]
  by_cases h5 : own = "WoundTown$Decade"
  · subst h5
    exact zt_lc_WoundTown_Decade_ok
  rw [if_neg h5]
  by_cases h6 : own = "WoundTown$Rules"
  · subst h6
    exact zt_lc_WoundTown_Rules_ok
  rw [if_neg h6]
  by_cases h7 : own = "WoundTown$Undo"
  · subst h7
    exact zt_lc_WoundTown_Undo_ok
  rw [if_neg h7]
  by_cases h8 : own = "WoundTown$Places"
  · subst h8
    exact zt_lc_WoundTown_Places_ok
  rw [if_neg h8]
  by_cases h9 : own = "WoundTown$Tape"
  · subst h9
    exact zt_lc_WoundTown_Tape_ok
  rw [if_neg h9]
  by_cases h10 : own = "WoundTown$Reader"
  · subst h10
    exact zt_lc_WoundTown_Reader_ok
  rw [if_neg h10]
  by_cases h11 : own = "WoundTown$Text"
  · subst h11
    exact zt_lc_WoundTown_Text_ok
  rw [if_neg h11]
  by_cases h12 : own = "java/lang/String"
  · subst h12
    exact zt_lc_java_lang_String_ok
  rw [if_neg h12]
  by_cases h13 : own = "java/lang/StringLatin1"
  · subst h13
    exact zt_lc_java_lang_StringLatin1_ok
  rw [if_neg h13]
  by_cases h14 : own = "java/lang/StringUTF16"
  · subst h14
    exact zt_lc_java_lang_StringUTF16_ok
  rw [if_neg h14]
  by_cases h15 : own = "java/lang/Integer"
  · subst h15
    exact zt_lc_java_lang_Integer_ok
  rw [if_neg h15]
  by_cases h16 : own = "WoundTownModel"
  · subst h16
    exact zt_lc_WoundTownModel_ok
  rw [if_neg h16]
  rfl
theorem zt_fours_all (own : String) : (zt_fours own).all (zt_fb own) = true := by
  unfold zt_fours
  by_cases h0 : own = "WoundTown"
  · subst h0
    exact zt_four_WoundTown
  rw [if_neg h0]
  by_cases h1 : own = "WoundTown$Town"
  · subst h1
    exact zt_four_WoundTown_Town
  rw [if_neg h1]
  rfl
/-- a link that a method uses -/
def zt_lkin (own : String) (q : zk_L) : Bool := (zt_lks own).any (fun r => decide (r.1 = q)) || ((zt_fours own).any (fun r => decide (r.1 = q)) || zt_tx.any (fun r => decide (r.1 = own) && decide (q = (9, r.2.1, r.2.2.1, 0, 0))))
theorem zt_lkin_ok {w : zk_W} (hW : zh_W w) {own : String} {q : zk_L} (h : zt_lkin own q = true) {s : State} {args : Array Value} (hZ : w.2.2.2.2.2 s) (hts : ∀ x ∈ zt_TB, x.before args s = true) : zk_lkok w s args own q := by
  unfold zt_lkin at h
  rcases Bool.or_eq_true _ _ ▸ h with h | h
  · obtain ⟨r, h1, h2⟩ := List.any_eq_true.mp h
    rw [← of_decide_eq_true h2]
    exact zt_lkb_ok hW.2.1 (List.all_eq_true.mp (zt_lks_all own) r h1) hts
  · rcases Bool.or_eq_true _ _ ▸ h with h | h
    · obtain ⟨r, h1, h2⟩ := List.any_eq_true.mp h
      rw [← of_decide_eq_true h2]
      exact zt_fb_ok hW (List.all_eq_true.mp (zt_fours_all own) r h1) hZ hts
    · obtain ⟨r, h1, h2⟩ := List.any_eq_true.mp h
      rw [Bool.and_eq_true, decide_eq_true_eq, decide_eq_true_eq] at h2
      obtain ⟨a, e1, e2⟩ := hW.2.2.2.1 s hZ r h1
      rw [h2.2, ← h2.1]
      exact ⟨r.2.2.2, a, e1, e2⟩
def zt_lcin (own : String) (q : Nat × Nat × Nat) : Bool := (zt_lcs own).any (fun r => decide (r.1 = q)) || zt_ne.any (fun r => decide (r.1 = own) && decide (q = (4, r.2.1, r.2.2)) && decide (r.2.2 = 15))
theorem zt_lcin_ok {w : zk_W} (hW : zh_W w) {own : String} {q : Nat × Nat × Nat} (h : zt_lcin own q = true) {s : State} {args : Array Value} (hZ : w.2.2.2.2.2 s) (hts : ∀ x ∈ zt_TB, x.before args s = true) : zk_lc s args own q.1 q.2.1 (zt_mn q.2.2) := by
  unfold zt_lcin at h
  rcases Bool.or_eq_true _ _ ▸ h with h | h
  · obtain ⟨r, h1, h2⟩ := List.any_eq_true.mp h
    rw [← of_decide_eq_true h2]
    exact zt_lcb_ok (List.all_eq_true.mp (zt_lcs_all own) r h1) hts
  · obtain ⟨r, h1, h2⟩ := List.any_eq_true.mp h
    rw [Bool.and_eq_true, Bool.and_eq_true, decide_eq_true_eq, decide_eq_true_eq, decide_eq_true_eq] at h2
    obtain ⟨host, e1⟩ := hW.2.2.2.2.1 s hZ r h1
    have hw := zt_ne_w
    rw [Bool.and_eq_true] at hw
    rw [h2.1.2, ← h2.1.1]
    exact ⟨⟨host, e1⟩, by dsimp only; rw [h2.2]; exact zt_wd_ok hw.1 hts, by dsimp only; rw [h2.2]; exact zt_wd_ok hw.2 hts⟩
/-- what a contract's method is, as the tables have it -/
def zt_cokb (pl : Nat) (K : zk_K) : Bool := plainName K.1.cls && decide (K.1.cls ≠ "java/lang/invoke/MethodHandle") && decide (K.1.cls ≠ "java/lang/invoke/VarHandle") && decide ((parseMethodDescriptor K.1.desc).map (fun d => d.parameters.length) = some ((zk_Kp K).length - (if zk_Kk K = 0 then 0 else 1))) && zt_wd pl (.code K.1 K.2.1 K.2.2.1 K.2.2.2.1)
  && (zk_Kk K == 0 || (if zk_Kc K = 999 then decide (K.1.cls = "java/lang/String") else (match zt_cl[zk_Kc K]? with
    | some c => decide (c.1 = K.1.cls)
    | none => false))) && (zk_Kk K != 2 || (decide (K.1.name = "<init>") && decide (K.2.2.2.1 = none)))
theorem zt_cok_ok {w : zk_W} (hw : w.2.1 = zt_cl) {pl : Nat} {K : zk_K} (h : zt_cokb pl K = true) : zk_cok w zt_TB K := by
  unfold zt_cokb at h
  simp only [Bool.and_eq_true, Bool.or_eq_true, decide_eq_true_eq, beq_iff_eq, bne_iff_ne] at h
  obtain ⟨⟨⟨⟨⟨⟨h1, h2⟩, h3⟩, h4⟩, h5⟩, h6⟩, h7⟩ := h
  refine ⟨h1, h2, h3, h4, zt_wd_mem h5, fun hk => ?_, fun hk => ?_⟩
  · rcases h6 with h6 | h6
    · exact absurd h6 hk
    · split at h6
      · rename_i h8
        exact Or.inr ⟨h8, of_decide_eq_true h6⟩
      · rename_i h8
        split at h6
        · rename_i c hc
          refine Or.inl ⟨h8, c.2.1, c.2.2, ?_⟩
          rw [hw, hc, ← of_decide_eq_true h6]
        · cases h6
  · rcases h7 with h7 | h7
    · exact absurd hk h7
    · exact h7
def zq_note (ns : List (Nat × Nat × List (Nat × Int × Nat))) (r : zk_Ci) : zk_Ci := match ns.find? (fun q => q.1 == r.1) with
  | some q => (r.1, r.2.1, r.2.2.1, q.2.1, q.2.2)
  | none => r
theorem zq_note_ok {cc : ByteArray} {CL : List zk_Ci} (h : ∀ q ∈ CL, decode cc q.1 = .ok (q.2.1, q.2.2.1)) (ns : List (Nat × Nat × List (Nat × Int × Nat))) : ∀ q ∈ CL.map (zq_note ns), decode cc q.1 = .ok (q.2.1, q.2.2.1) := by
  intro q hq
  obtain ⟨r, h1, rfl⟩ := List.mem_map.mp hq
  unfold zq_note
  split
  · exact h r h1
  · exact h r h1
def zk_anb (E : zk_Ev) (CL : List zk_Ci) (AN : List zk_An) (fuel : Nat) (A : zk_An) : Bool := A.2.2.2.2.2.2.all (fun t => decide (t.2 < A.2.1.1.length)) && (match zk_lbd A.2.1.1 A.2.2.2.2.2.2 with
    | some b => decide (0 ≤ A.2.2.2.2.2.1 + b)
    | none => false) && zk_go E CL AN (some A.2.2.2.2.2) fuel A.1 A.2.1 A.2.2.1 A.2.2.2.1 A.2.2.2.2.1
theorem zk_chk_of {E : zk_Ev} {CL : List zk_Ci} {AN : List zk_An} {fuel : Nat} (h0 : (zk_e0b E && zk_go E CL AN none fuel 0 (zk_k0 E) [] 0 0) = true) (h1 : ∀ A ∈ AN, zk_anb E CL AN fuel A = true) : zk_chk E CL AN fuel = true := by
  unfold zk_chk
  rw [Bool.and_eq_true]
  exact ⟨h0, List.all_eq_true.mpr h1⟩
/-- a contract that is kept, with what the tables say of its method -/
def zh_K (l : Launch) (w : zk_W) (K : zk_K) : Prop := zk_met l w zt_dv zt_TB K ∧ zk_cok w zt_TB K
theorem zh_meth {l : Launch} {w : zk_W} (hW : zh_W w) {lk : List zk_L} {KS : List zk_K} {km : List Nat} {lc : List (Nat × Nat × Nat)} {K : zk_K} {CL0 : List zk_Ci} {ns : List (Nat × Nat × List (Nat × Int × Nat))} {AN : List zk_An} {fuel pl : Nat}
    (hc : zk_chk (zt_types, lk, zt_dv, KS, km, lc, K) (CL0.map (zq_note ns)) AN fuel = true) (hb : (zt_cokb pl K && (decide (KS.map (fun K => K.1) = km.map zt_mn) && (lk.all (zt_lkin K.1.cls) && lc.all (zt_lcin K.1.cls)))) = true) (hCL : ∀ q ∈ CL0, decode K.2.1 q.1 = .ok (q.2.1, q.2.2.1)) (hKS : ∀ K' ∈ KS, zh_K l w K') : zh_K l w K := by
  simp only [Bool.and_eq_true, decide_eq_true_eq] at hb
  obtain ⟨h1, h2, h3, h4⟩ := hb
  have hcok := zt_cok_ok hW.2.1 h1
  refine ⟨zk_meth (E := (zt_types, lk, zt_dv, KS, km, lc, K)) (mn := zt_mn) hc (zq_note_ok hCL ns) hW.1 (zt_dvok hW.2.1) (zt_clsok hW.2.1) zt_good (fun j K' hj => hKS K' (List.mem_of_getElem? hj)) (fun j K' k hj hk => ?_) hW.2.2.1 (fun s args hZ hts q hq => zt_lkin_ok hW (List.all_eq_true.mp h3 q hq) hZ hts) (fun s args hZ hts q hq => zt_lcin_ok hW (List.all_eq_true.mp h4 q hq) hZ hts) hcok, hcok⟩
  have e1 : (KS.map (fun K => K.1))[j]? = some K'.1 := by rw [List.getElem?_map, hj]; rfl
  rw [h2, List.getElem?_map, hk] at e1
  exact (Option.some.inj e1).symm
end
