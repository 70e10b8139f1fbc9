/-! part 64: contracts of the class, by the checker -/
/-- X5_both -/
def zK_119 : zk_K := (zt_mn 72, prog_7_method_9_code, 4, (Option.some Jvm.ClassFile.FieldType.boolean), 1, 5, [(2, 5, 0, 0), (0, 0, 4, 4)], [(some (0, 0, 0, 0), []), (some (0, 0, 1, 1), [])], [(5, 4, 0), (7, 3, 0), (7, 5, 0), (7, 2, 0), (7, 4, 0), (35, 1001, 0), (8, 7, 0)], (30, 700, 0, 0))
theorem zq_119 {l : Launch} {w : zk_W} (hW : zh_W w) : zh_K l w zK_119 := zh_meth hW (lk := [(2, 24, 5, 0, 18), (9, 141, 207, 0, 0), (2, 16, 5, 1, 18)]) (KS := [zK_118, zK_97, zK_39, zK_62, zK_98]) (km := [73, 68, 43, 66, 76]) (lc := [(0, 138, 73), (0, 90, 68), (0, 60, 43), (0, 123, 66), (0, 134, 76)]) (CL0 := zc_X5_both) (ns := [(25, 1, []), (35, 2, []), (44, 3, []), (63, 4, [])]) (AN := [(12, ([(0, 0, 0, 0), (1, 0, 0, 0), (2, 0, (-1), (-1)), (2, 5, 0, 0), (0, 0, 4, 4), (0, 0, 0, 400)], [], [], [], [(2, (5, 0)), (0, (3, 0)), (1, (4, 0))], [(0, 3), (1, 4)], []), [], 0, 0, (400, [((-1), 5)]))]) (fuel := 206) (pl := 850) (by decide +kernel) (by decide +kernel) zd_X5_both (by
  intro K h
  rcases List.mem_cons.mp h with rfl | h
  · exact zq_118 hW
  rcases List.mem_cons.mp h with rfl | h
  · exact zq_97 hW
  rcases List.mem_cons.mp h with rfl | h
  · exact zq_39 hW
  rcases List.mem_cons.mp h with rfl | h
  · exact zq_62 hW
  rw [List.mem_singleton.mp h]
  exact zq_98 hW)
/-- X5_test -/
def zK_120 : zk_K := (zt_mn 71, prog_7_method_8_code, 4, (Option.some Jvm.ClassFile.FieldType.boolean), 1, 5, [(2, 5, 0, 0), (0, 0, 4, 4)], [(some (0, 0, 0, 0), []), (some (0, 0, 1, 1), [])], [(5, 4, 0), (7, 3, 0), (7, 5, 0), (7, 2, 0), (7, 4, 0), (35, 1001, 0), (8, 7, 0)], (31, 723, 0, 0))
theorem zq_120 {l : Launch} {w : zk_W} (hW : zh_W w) : zh_K l w zK_120 := zh_meth hW (lk := [(2, 24, 5, 0, 18), (9, 132, 208, 0, 0), (2, 16, 5, 1, 18)]) (KS := [zK_119, zK_103, zK_39, zK_62, zK_98]) (km := [72, 68, 43, 66, 76]) (lc := [(0, 129, 72), (0, 90, 68), (0, 60, 43), (0, 123, 66), (0, 134, 76)]) (CL0 := zc_X5_test) (ns := [(25, 1, []), (35, 2, []), (44, 3, []), (63, 4, [])]) (AN := [(12, ([(0, 0, 0, 0), (1, 0, 0, 0), (2, 0, (-1), (-1)), (2, 5, 0, 0), (0, 0, 4, 4), (0, 0, 0, 400)], [], [], [], [(2, (5, 0)), (0, (3, 0)), (1, (4, 0))], [(0, 3), (1, 4)], []), [], 0, 0, (400, [((-1), 5)]))]) (fuel := 206) (pl := 846) (by decide +kernel) (by decide +kernel) zd_X5_test (by
  intro K h
  rcases List.mem_cons.mp h with rfl | h
  · exact zq_119 hW
  rcases List.mem_cons.mp h with rfl | h
  · exact zq_103 hW
  rcases List.mem_cons.mp h with rfl | h
  · exact zq_39 hW
  rcases List.mem_cons.mp h with rfl | h
  · exact zq_62 hW
  rw [List.mem_singleton.mp h]
  exact zq_98 hW)
/-- X5_bracketed -/
def zK_121 : zk_K := (zt_mn 74, prog_7_method_12_code, 2, (Option.some Jvm.ClassFile.FieldType.boolean), 1, 5, [(2, 5, 0, 0), (0, 0, 3, 3)], [(some (0, 0, 0, 0), []), (some (0, 0, 1, 1), [])], [(7, 3, 0), (7, 5, 0), (7, 2, 0), (7, 4, 0), (5, 4, 0), (35, 1001, 0), (8, 7, 0)], (32, 746, 0, 0))
theorem zq_121 {l : Launch} {w : zk_W} (hW : zh_W w) : zh_K l w zK_121 := zh_meth hW (lk := [(2, 24, 5, 0, 18)]) (KS := [zK_39, zK_120, zK_54]) (km := [43, 71, 64]) (lc := [(0, 60, 43), (0, 120, 71), (0, 53, 64)]) (CL0 := zc_X5_bracketed) (ns := [(19, 1, []), (31, 2, [])]) (AN := []) (fuel := 154) (pl := 859) (by decide +kernel) (by decide +kernel) zd_X5_bracketed (by
  intro K h
  rcases List.mem_cons.mp h with rfl | h
  · exact zq_39 hW
  rcases List.mem_cons.mp h with rfl | h
  · exact zq_120 hW
  rw [List.mem_singleton.mp h]
  exact zq_54 hW)
/-- X5_plain -/
def zK_122 : zk_K := (zt_mn 73, prog_7_method_10_code, 4, (Option.some Jvm.ClassFile.FieldType.boolean), 1, 5, [(2, 5, 0, 0), (0, 0, 3, 3)], [(some (0, 0, 0, 0), []), (some (0, 0, 1, 1), [])], [(5, 4, 0), (7, 3, 0), (7, 5, 0), (7, 2, 0), (7, 4, 0), (35, 1001, 0), (8, 7, 0)], (33, 767, 0, 0))
theorem zq_122 {l : Launch} {w : zk_W} (hW : zh_W w) : zh_K l w zK_122 := zh_meth hW (lk := [(2, 24, 5, 0, 18), (9, 143, 206, 0, 0), (2, 16, 5, 1, 18)]) (KS := [zK_53, zK_39, zK_54, zK_121, zK_81, zK_91, zK_62]) (km := [68, 43, 64, 74, 61, 75, 66]) (lc := [(0, 90, 68), (0, 60, 43), (0, 53, 64), (0, 145, 74), (0, 126, 61), (0, 148, 75), (0, 123, 66)]) (CL0 := zc_X5_plain) (ns := [(27, 1, []), (52, 2, []), (60, 3, []), (70, 4, []), (79, 5, []), (94, 1, []), (99, 4, []), (113, 6, []), (127, 6, [])]) (AN := [(4, ([(0, 0, 0, 0), (1, 0, 0, 0), (2, 0, (-1), (-1)), (2, 5, 0, 0), (0, 0, 3, 3), (0, 0, 0, 400), (0, 0, 0, 1)], [(6, 5, 0)], [], [], [(3, (5, 0)), (2, (6, 0)), (0, (3, 0)), (1, (4, 0))], [(0, 3), (1, 4)], []), [], 0, 0, (400, [((-1), 5)]))]) (fuel := 342) (pl := 854) (by decide +kernel) (by decide +kernel) zd_X5_plain (by
  intro K h
  rcases List.mem_cons.mp h with rfl | h
  · exact zq_53 hW
  rcases List.mem_cons.mp h with rfl | h
  · exact zq_39 hW
  rcases List.mem_cons.mp h with rfl | h
  · exact zq_54 hW
  rcases List.mem_cons.mp h with rfl | h
  · exact zq_121 hW
  rcases List.mem_cons.mp h with rfl | h
  · exact zq_81 hW
  rcases List.mem_cons.mp h with rfl | h
  · exact zq_91 hW
  rw [List.mem_singleton.mp h]
  exact zq_62 hW)
/-- X5_both -/
def zK_123 : zk_K := (zt_mn 72, prog_7_method_9_code, 4, (Option.some Jvm.ClassFile.FieldType.boolean), 1, 5, [(2, 5, 0, 0), (0, 0, 3, 3)], [(some (0, 0, 0, 0), []), (some (0, 0, 1, 1), [])], [(5, 4, 0), (7, 3, 0), (7, 5, 0), (7, 2, 0), (7, 4, 0), (35, 1001, 0), (8, 7, 0)], (34, 790, 0, 0))
theorem zq_123 {l : Launch} {w : zk_W} (hW : zh_W w) : zh_K l w zK_123 := zh_meth hW (lk := [(2, 24, 5, 0, 18), (9, 141, 207, 0, 0), (2, 16, 5, 1, 18)]) (KS := [zK_122, zK_97, zK_39, zK_62, zK_98]) (km := [73, 68, 43, 66, 76]) (lc := [(0, 138, 73), (0, 90, 68), (0, 60, 43), (0, 123, 66), (0, 134, 76)]) (CL0 := zc_X5_both) (ns := [(25, 1, []), (35, 2, []), (44, 3, []), (63, 4, [])]) (AN := [(12, ([(0, 0, 0, 0), (1, 0, 0, 0), (2, 0, (-1), (-1)), (2, 5, 0, 0), (0, 0, 3, 3), (0, 0, 0, 400)], [], [], [], [(2, (5, 0)), (0, (3, 0)), (1, (4, 0))], [(0, 3), (1, 4)], []), [], 0, 0, (400, [((-1), 5)]))]) (fuel := 206) (pl := 850) (by decide +kernel) (by decide +kernel) zd_X5_both (by
  intro K h
  rcases List.mem_cons.mp h with rfl | h
  · exact zq_122 hW
  rcases List.mem_cons.mp h with rfl | h
  · exact zq_97 hW
  rcases List.mem_cons.mp h with rfl | h
  · exact zq_39 hW
  rcases List.mem_cons.mp h with rfl | h
  · exact zq_62 hW
  rw [List.mem_singleton.mp h]
  exact zq_98 hW)
/-- X5_test -/
def zK_124 : zk_K := (zt_mn 71, prog_7_method_8_code, 4, (Option.some Jvm.ClassFile.FieldType.boolean), 1, 5, [(2, 5, 0, 0), (0, 0, 3, 3)], [(some (0, 0, 0, 0), []), (some (0, 0, 1, 1), [])], [(5, 4, 0), (7, 3, 0), (7, 5, 0), (7, 2, 0), (7, 4, 0), (35, 1001, 0), (8, 7, 0)], (35, 813, 0, 0))
theorem zq_124 {l : Launch} {w : zk_W} (hW : zh_W w) : zh_K l w zK_124 := zh_meth hW (lk := [(2, 24, 5, 0, 18), (9, 132, 208, 0, 0), (2, 16, 5, 1, 18)]) (KS := [zK_123, zK_103, zK_39, zK_62, zK_98]) (km := [72, 68, 43, 66, 76]) (lc := [(0, 129, 72), (0, 90, 68), (0, 60, 43), (0, 123, 66), (0, 134, 76)]) (CL0 := zc_X5_test) (ns := [(25, 1, []), (35, 2, []), (44, 3, []), (63, 4, [])]) (AN := [(12, ([(0, 0, 0, 0), (1, 0, 0, 0), (2, 0, (-1), (-1)), (2, 5, 0, 0), (0, 0, 3, 3), (0, 0, 0, 400)], [], [], [], [(2, (5, 0)), (0, (3, 0)), (1, (4, 0))], [(0, 3), (1, 4)], []), [], 0, 0, (400, [((-1), 5)]))]) (fuel := 206) (pl := 846) (by decide +kernel) (by decide +kernel) zd_X5_test (by
  intro K h
  rcases List.mem_cons.mp h with rfl | h
  · exact zq_123 hW
  rcases List.mem_cons.mp h with rfl | h
  · exact zq_103 hW
  rcases List.mem_cons.mp h with rfl | h
  · exact zq_39 hW
  rcases List.mem_cons.mp h with rfl | h
  · exact zq_62 hW
  rw [List.mem_singleton.mp h]
  exact zq_98 hW)
/-- X5_bracketed -/
def zK_125 : zk_K := (zt_mn 74, prog_7_method_12_code, 2, (Option.some Jvm.ClassFile.FieldType.boolean), 1, 5, [(2, 5, 0, 0), (0, 0, 2, 2)], [(some (0, 0, 0, 0), []), (some (0, 0, 1, 1), [])], [(7, 3, 0), (7, 5, 0), (7, 2, 0), (7, 4, 0), (5, 4, 0), (35, 1001, 0), (8, 7, 0)], (36, 836, 0, 0))
theorem zq_125 {l : Launch} {w : zk_W} (hW : zh_W w) : zh_K l w zK_125 := zh_meth hW (lk := [(2, 24, 5, 0, 18)]) (KS := [zK_39, zK_124, zK_54]) (km := [43, 71, 64]) (lc := [(0, 60, 43), (0, 120, 71), (0, 53, 64)]) (CL0 := zc_X5_bracketed) (ns := [(19, 1, []), (31, 2, [])]) (AN := []) (fuel := 154) (pl := 859) (by decide +kernel) (by decide +kernel) zd_X5_bracketed (by
  intro K h
  rcases List.mem_cons.mp h with rfl | h
  · exact zq_39 hW
  rcases List.mem_cons.mp h with rfl | h
  · exact zq_124 hW
  rw [List.mem_singleton.mp h]
  exact zq_54 hW)
/-- X5_plain -/
def zK_126 : zk_K := (zt_mn 73, prog_7_method_10_code, 4, (Option.some Jvm.ClassFile.FieldType.boolean), 1, 5, [(2, 5, 0, 0), (0, 0, 2, 2)], [(some (0, 0, 0, 0), []), (some (0, 0, 1, 1), [])], [(5, 4, 0), (7, 3, 0), (7, 5, 0), (7, 2, 0), (7, 4, 0), (35, 1001, 0), (8, 7, 0)], (37, 857, 0, 0))
theorem zq_126 {l : Launch} {w : zk_W} (hW : zh_W w) : zh_K l w zK_126 := zh_meth hW (lk := [(2, 24, 5, 0, 18), (9, 143, 206, 0, 0), (2, 16, 5, 1, 18)]) (KS := [zK_53, zK_39, zK_54, zK_125, zK_84, zK_91, zK_62]) (km := [68, 43, 64, 74, 61, 75, 66]) (lc := [(0, 90, 68), (0, 60, 43), (0, 53, 64), (0, 145, 74), (0, 126, 61), (0, 148, 75), (0, 123, 66)]) (CL0 := zc_X5_plain) (ns := [(27, 1, []), (52, 2, []), (60, 3, []), (70, 4, []), (79, 5, []), (94, 1, []), (99, 4, []), (113, 6, []), (127, 6, [])]) (AN := [(4, ([(0, 0, 0, 0), (1, 0, 0, 0), (2, 0, (-1), (-1)), (2, 5, 0, 0), (0, 0, 2, 2), (0, 0, 0, 400), (0, 0, 0, 1)], [(6, 5, 0)], [], [], [(3, (5, 0)), (2, (6, 0)), (0, (3, 0)), (1, (4, 0))], [(0, 3), (1, 4)], []), [], 0, 0, (400, [((-1), 5)]))]) (fuel := 342) (pl := 854) (by decide +kernel) (by decide +kernel) zd_X5_plain (by
  intro K h
  rcases List.mem_cons.mp h with rfl | h
  · exact zq_53 hW
  rcases List.mem_cons.mp h with rfl | h
  · exact zq_39 hW
  rcases List.mem_cons.mp h with rfl | h
  · exact zq_54 hW
  rcases List.mem_cons.mp h with rfl | h
  · exact zq_125 hW
  rcases List.mem_cons.mp h with rfl | h
  · exact zq_84 hW
  rcases List.mem_cons.mp h with rfl | h
  · exact zq_91 hW
  rw [List.mem_singleton.mp h]
  exact zq_62 hW)
/-- X5_both -/
def zK_127 : zk_K := (zt_mn 72, prog_7_method_9_code, 4, (Option.some Jvm.ClassFile.FieldType.boolean), 1, 5, [(2, 5, 0, 0), (0, 0, 2, 2)], [(some (0, 0, 0, 0), []), (some (0, 0, 1, 1), [])], [(5, 4, 0), (7, 3, 0), (7, 5, 0), (7, 2, 0), (7, 4, 0), (35, 1001, 0), (8, 7, 0)], (38, 880, 0, 0))
theorem zq_127 {l : Launch} {w : zk_W} (hW : zh_W w) : zh_K l w zK_127 := zh_meth hW (lk := [(2, 24, 5, 0, 18), (9, 141, 207, 0, 0), (2, 16, 5, 1, 18)]) (KS := [zK_126, zK_97, zK_39, zK_62, zK_98]) (km := [73, 68, 43, 66, 76]) (lc := [(0, 138, 73), (0, 90, 68), (0, 60, 43), (0, 123, 66), (0, 134, 76)]) (CL0 := zc_X5_both) (ns := [(25, 1, []), (35, 2, []), (44, 3, []), (63, 4, [])]) (AN := [(12, ([(0, 0, 0, 0), (1, 0, 0, 0), (2, 0, (-1), (-1)), (2, 5, 0, 0), (0, 0, 2, 2), (0, 0, 0, 400)], [], [], [], [(2, (5, 0)), (0, (3, 0)), (1, (4, 0))], [(0, 3), (1, 4)], []), [], 0, 0, (400, [((-1), 5)]))]) (fuel := 206) (pl := 850) (by decide +kernel) (by decide +kernel) zd_X5_both (by
  intro K h
  rcases List.mem_cons.mp h with rfl | h
  · exact zq_126 hW
  rcases List.mem_cons.mp h with rfl | h
  · exact zq_97 hW
  rcases List.mem_cons.mp h with rfl | h
  · exact zq_39 hW
  rcases List.mem_cons.mp h with rfl | h
  · exact zq_62 hW
  rw [List.mem_singleton.mp h]
  exact zq_98 hW)
/-- X5_test -/
def zK_128 : zk_K := (zt_mn 71, prog_7_method_8_code, 4, (Option.some Jvm.ClassFile.FieldType.boolean), 1, 5, [(2, 5, 0, 0), (0, 0, 2, 2)], [(some (0, 0, 0, 0), []), (some (0, 0, 1, 1), [])], [(5, 4, 0), (7, 3, 0), (7, 5, 0), (7, 2, 0), (7, 4, 0), (35, 1001, 0), (8, 7, 0)], (39, 903, 0, 0))
theorem zq_128 {l : Launch} {w : zk_W} (hW : zh_W w) : zh_K l w zK_128 := zh_meth hW (lk := [(2, 24, 5, 0, 18), (9, 132, 208, 0, 0), (2, 16, 5, 1, 18)]) (KS := [zK_127, zK_103, zK_39, zK_62, zK_98]) (km := [72, 68, 43, 66, 76]) (lc := [(0, 129, 72), (0, 90, 68), (0, 60, 43), (0, 123, 66), (0, 134, 76)]) (CL0 := zc_X5_test) (ns := [(25, 1, []), (35, 2, []), (44, 3, []), (63, 4, [])]) (AN := [(12, ([(0, 0, 0, 0), (1, 0, 0, 0), (2, 0, (-1), (-1)), (2, 5, 0, 0), (0, 0, 2, 2), (0, 0, 0, 400)], [], [], [], [(2, (5, 0)), (0, (3, 0)), (1, (4, 0))], [(0, 3), (1, 4)], []), [], 0, 0, (400, [((-1), 5)]))]) (fuel := 206) (pl := 846) (by decide +kernel) (by decide +kernel) zd_X5_test (by
  intro K h
  rcases List.mem_cons.mp h with rfl | h
  · exact zq_127 hW
  rcases List.mem_cons.mp h with rfl | h
  · exact zq_103 hW
  rcases List.mem_cons.mp h with rfl | h
  · exact zq_39 hW
  rcases List.mem_cons.mp h with rfl | h
  · exact zq_62 hW
  rw [List.mem_singleton.mp h]
  exact zq_98 hW)
/-- X5_bracketed -/
def zK_129 : zk_K := (zt_mn 74, prog_7_method_12_code, 2, (Option.some Jvm.ClassFile.FieldType.boolean), 1, 5, [(2, 5, 0, 0), (0, 0, 1, 1)], [(some (0, 0, 0, 0), []), (some (0, 0, 1, 1), [])], [(7, 3, 0), (7, 5, 0), (7, 2, 0), (7, 4, 0), (5, 4, 0), (35, 1001, 0), (8, 7, 0)], (40, 926, 0, 0))
theorem zq_129 {l : Launch} {w : zk_W} (hW : zh_W w) : zh_K l w zK_129 := zh_meth hW (lk := [(2, 24, 5, 0, 18)]) (KS := [zK_39, zK_128, zK_54]) (km := [43, 71, 64]) (lc := [(0, 60, 43), (0, 120, 71), (0, 53, 64)]) (CL0 := zc_X5_bracketed) (ns := [(19, 1, []), (31, 2, [])]) (AN := []) (fuel := 154) (pl := 859) (by decide +kernel) (by decide +kernel) zd_X5_bracketed (by
  intro K h
  rcases List.mem_cons.mp h with rfl | h
  · exact zq_39 hW
  rcases List.mem_cons.mp h with rfl | h
  · exact zq_128 hW
  rw [List.mem_singleton.mp h]
  exact zq_54 hW)
/-- X5_plain -/
def zK_130 : zk_K := (zt_mn 73, prog_7_method_10_code, 4, (Option.some Jvm.ClassFile.FieldType.boolean), 1, 5, [(2, 5, 0, 0), (0, 0, 1, 1)], [(some (0, 0, 0, 0), []), (some (0, 0, 1, 1), [])], [(5, 4, 0), (7, 3, 0), (7, 5, 0), (7, 2, 0), (7, 4, 0), (35, 1001, 0), (8, 7, 0)], (41, 947, 0, 0))
theorem zq_130 {l : Launch} {w : zk_W} (hW : zh_W w) : zh_K l w zK_130 := zh_meth hW (lk := [(2, 24, 5, 0, 18), (9, 143, 206, 0, 0), (2, 16, 5, 1, 18)]) (KS := [zK_53, zK_39, zK_54, zK_129, zK_87, zK_91, zK_62]) (km := [68, 43, 64, 74, 61, 75, 66]) (lc := [(0, 90, 68), (0, 60, 43), (0, 53, 64), (0, 145, 74), (0, 126, 61), (0, 148, 75), (0, 123, 66)]) (CL0 := zc_X5_plain) (ns := [(27, 1, []), (52, 2, []), (60, 3, []), (70, 4, []), (79, 5, []), (94, 1, []), (99, 4, []), (113, 6, []), (127, 6, [])]) (AN := [(4, ([(0, 0, 0, 0), (1, 0, 0, 0), (2, 0, (-1), (-1)), (2, 5, 0, 0), (0, 0, 1, 1), (0, 0, 0, 400), (0, 0, 0, 1)], [(6, 5, 0)], [], [], [(3, (5, 0)), (2, (6, 0)), (0, (3, 0)), (1, (4, 0))], [(0, 3), (1, 4)], []), [], 0, 0, (400, [((-1), 5)]))]) (fuel := 342) (pl := 854) (by decide +kernel) (by decide +kernel) zd_X5_plain (by
  intro K h
  rcases List.mem_cons.mp h with rfl | h
  · exact zq_53 hW
  rcases List.mem_cons.mp h with rfl | h
  · exact zq_39 hW
  rcases List.mem_cons.mp h with rfl | h
  · exact zq_54 hW
  rcases List.mem_cons.mp h with rfl | h
  · exact zq_129 hW
  rcases List.mem_cons.mp h with rfl | h
  · exact zq_87 hW
  rcases List.mem_cons.mp h with rfl | h
  · exact zq_91 hW
  rw [List.mem_singleton.mp h]
  exact zq_62 hW)
/-- X5_both -/
def zK_131 : zk_K := (zt_mn 72, prog_7_method_9_code, 4, (Option.some Jvm.ClassFile.FieldType.boolean), 1, 5, [(2, 5, 0, 0), (0, 0, 1, 1)], [(some (0, 0, 0, 0), []), (some (0, 0, 1, 1), [])], [(5, 4, 0), (7, 3, 0), (7, 5, 0), (7, 2, 0), (7, 4, 0), (35, 1001, 0), (8, 7, 0)], (42, 970, 0, 0))
theorem zq_131 {l : Launch} {w : zk_W} (hW : zh_W w) : zh_K l w zK_131 := zh_meth hW (lk := [(2, 24, 5, 0, 18), (9, 141, 207, 0, 0), (2, 16, 5, 1, 18)]) (KS := [zK_130, zK_97, zK_39, zK_62, zK_98]) (km := [73, 68, 43, 66, 76]) (lc := [(0, 138, 73), (0, 90, 68), (0, 60, 43), (0, 123, 66), (0, 134, 76)]) (CL0 := zc_X5_both) (ns := [(25, 1, []), (35, 2, []), (44, 3, []), (63, 4, [])]) (AN := [(12, ([(0, 0, 0, 0), (1, 0, 0, 0), (2, 0, (-1), (-1)), (2, 5, 0, 0), (0, 0, 1, 1), (0, 0, 0, 400)], [], [], [], [(2, (5, 0)), (0, (3, 0)), (1, (4, 0))], [(0, 3), (1, 4)], []), [], 0, 0, (400, [((-1), 5)]))]) (fuel := 206) (pl := 850) (by decide +kernel) (by decide +kernel) zd_X5_both (by
  intro K h
  rcases List.mem_cons.mp h with rfl | h
  · exact zq_130 hW
  rcases List.mem_cons.mp h with rfl | h
  · exact zq_97 hW
  rcases List.mem_cons.mp h with rfl | h
  · exact zq_39 hW
  rcases List.mem_cons.mp h with rfl | h
  · exact zq_62 hW
  rw [List.mem_singleton.mp h]
  exact zq_98 hW)
/-- X5_test -/
def zK_132 : zk_K := (zt_mn 71, prog_7_method_8_code, 4, (Option.some Jvm.ClassFile.FieldType.boolean), 1, 5, [(2, 5, 0, 0), (0, 0, 1, 1)], [(some (0, 0, 0, 0), []), (some (0, 0, 1, 1), [])], [(5, 4, 0), (7, 3, 0), (7, 5, 0), (7, 2, 0), (7, 4, 0), (35, 1001, 0), (8, 7, 0)], (43, 993, 0, 0))
theorem zq_132 {l : Launch} {w : zk_W} (hW : zh_W w) : zh_K l w zK_132 := zh_meth hW (lk := [(2, 24, 5, 0, 18), (9, 132, 208, 0, 0), (2, 16, 5, 1, 18)]) (KS := [zK_131, zK_103, zK_39, zK_62, zK_98]) (km := [72, 68, 43, 66, 76]) (lc := [(0, 129, 72), (0, 90, 68), (0, 60, 43), (0, 123, 66), (0, 134, 76)]) (CL0 := zc_X5_test) (ns := [(25, 1, []), (35, 2, []), (44, 3, []), (63, 4, [])]) (AN := [(12, ([(0, 0, 0, 0), (1, 0, 0, 0), (2, 0, (-1), (-1)), (2, 5, 0, 0), (0, 0, 1, 1), (0, 0, 0, 400)], [], [], [], [(2, (5, 0)), (0, (3, 0)), (1, (4, 0))], [(0, 3), (1, 4)], []), [], 0, 0, (400, [((-1), 5)]))]) (fuel := 206) (pl := 846) (by decide +kernel) (by decide +kernel) zd_X5_test (by
  intro K h
  rcases List.mem_cons.mp h with rfl | h
  · exact zq_131 hW
  rcases List.mem_cons.mp h with rfl | h
  · exact zq_103 hW
  rcases List.mem_cons.mp h with rfl | h
  · exact zq_39 hW
  rcases List.mem_cons.mp h with rfl | h
  · exact zq_62 hW
  rw [List.mem_singleton.mp h]
  exact zq_98 hW)
/-- X5_bracketed -/
def zK_133 : zk_K := (zt_mn 74, prog_7_method_12_code, 2, (Option.some Jvm.ClassFile.FieldType.boolean), 1, 5, [(2, 5, 0, 0), (0, 0, 0, 0)], [(some (0, 0, 0, 0), []), (some (0, 0, 1, 1), [])], [(7, 3, 0), (7, 5, 0), (7, 2, 0), (7, 4, 0), (5, 4, 0), (35, 1001, 0), (8, 7, 0)], (44, 1016, 0, 0))
theorem zq_133 {l : Launch} {w : zk_W} (hW : zh_W w) : zh_K l w zK_133 := zh_meth hW (lk := [(2, 24, 5, 0, 18)]) (KS := [zK_39, zK_132, zK_54]) (km := [43, 71, 64]) (lc := [(0, 60, 43), (0, 120, 71), (0, 53, 64)]) (CL0 := zc_X5_bracketed) (ns := [(19, 1, []), (31, 2, [])]) (AN := []) (fuel := 154) (pl := 859) (by decide +kernel) (by decide +kernel) zd_X5_bracketed (by
  intro K h
  rcases List.mem_cons.mp h with rfl | h
  · exact zq_39 hW
  rcases List.mem_cons.mp h with rfl | h
  · exact zq_132 hW
  rw [List.mem_singleton.mp h]
  exact zq_54 hW)
/-- X5_plain -/
def zK_134 : zk_K := (zt_mn 73, prog_7_method_10_code, 4, (Option.some Jvm.ClassFile.FieldType.boolean), 1, 5, [(2, 5, 0, 0), (0, 0, 0, 0)], [(some (0, 0, 0, 0), []), (some (0, 0, 1, 1), [])], [(5, 4, 0), (7, 3, 0), (7, 5, 0), (7, 2, 0), (7, 4, 0), (35, 1001, 0), (8, 7, 0)], (45, 1037, 0, 0))
theorem zq_134 {l : Launch} {w : zk_W} (hW : zh_W w) : zh_K l w zK_134 := zh_meth hW (lk := [(2, 24, 5, 0, 18), (9, 143, 206, 0, 0), (2, 16, 5, 1, 18)]) (KS := [zK_53, zK_39, zK_54, zK_133, zK_90, zK_91, zK_62]) (km := [68, 43, 64, 74, 61, 75, 66]) (lc := [(0, 90, 68), (0, 60, 43), (0, 53, 64), (0, 145, 74), (0, 126, 61), (0, 148, 75), (0, 123, 66)]) (CL0 := zc_X5_plain) (ns := [(27, 1, []), (52, 2, []), (60, 3, []), (70, 4, []), (79, 5, []), (94, 1, []), (99, 4, []), (113, 6, []), (127, 6, [])]) (AN := [(4, ([(0, 0, 0, 0), (1, 0, 0, 0), (2, 0, (-1), (-1)), (2, 5, 0, 0), (0, 0, 0, 0), (0, 0, 0, 400), (0, 0, 0, 1)], [(6, 5, 0)], [], [], [(3, (5, 0)), (2, (6, 0)), (0, (3, 0)), (1, (4, 0))], [(0, 3), (1, 4)], []), [], 0, 0, (400, [((-1), 5)]))]) (fuel := 342) (pl := 854) (by decide +kernel) (by decide +kernel) zd_X5_plain (by
  intro K h
  rcases List.mem_cons.mp h with rfl | h
  · exact zq_53 hW
  rcases List.mem_cons.mp h with rfl | h
  · exact zq_39 hW
  rcases List.mem_cons.mp h with rfl | h
  · exact zq_54 hW
  rcases List.mem_cons.mp h with rfl | h
  · exact zq_133 hW
  rcases List.mem_cons.mp h with rfl | h
  · exact zq_90 hW
  rcases List.mem_cons.mp h with rfl | h
  · exact zq_91 hW
  rw [List.mem_singleton.mp h]
  exact zq_62 hW)
/-- X5_both -/
def zK_135 : zk_K := (zt_mn 72, prog_7_method_9_code, 4, (Option.some Jvm.ClassFile.FieldType.boolean), 1, 5, [(2, 5, 0, 0), (0, 0, 0, 0)], [(some (0, 0, 0, 0), []), (some (0, 0, 1, 1), [])], [(5, 4, 0), (7, 3, 0), (7, 5, 0), (7, 2, 0), (7, 4, 0), (35, 1001, 0), (8, 7, 0)], (46, 1060, 0, 0))
theorem zq_135 {l : Launch} {w : zk_W} (hW : zh_W w) : zh_K l w zK_135 := zh_meth hW (lk := [(2, 24, 5, 0, 18), (9, 141, 207, 0, 0), (2, 16, 5, 1, 18)]) (KS := [zK_134, zK_97, zK_39, zK_62, zK_98]) (km := [73, 68, 43, 66, 76]) (lc := [(0, 138, 73), (0, 90, 68), (0, 60, 43), (0, 123, 66), (0, 134, 76)]) (CL0 := zc_X5_both) (ns := [(25, 1, []), (35, 2, []), (44, 3, []), (63, 4, [])]) (AN := [(12, ([(0, 0, 0, 0), (1, 0, 0, 0), (2, 0, (-1), (-1)), (2, 5, 0, 0), (0, 0, 0, 0), (0, 0, 0, 400)], [], [], [], [(2, (5, 0)), (0, (3, 0)), (1, (4, 0))], [(0, 3), (1, 4)], []), [], 0, 0, (400, [((-1), 5)]))]) (fuel := 206) (pl := 850) (by decide +kernel) (by decide +kernel) zd_X5_both (by
  intro K h
  rcases List.mem_cons.mp h with rfl | h
  · exact zq_134 hW
  rcases List.mem_cons.mp h with rfl | h
  · exact zq_97 hW
  rcases List.mem_cons.mp h with rfl | h
  · exact zq_39 hW
  rcases List.mem_cons.mp h with rfl | h
  · exact zq_62 hW
  rw [List.mem_singleton.mp h]
  exact zq_98 hW)
/-- X5_test -/
def zK_136 : zk_K := (zt_mn 71, prog_7_method_8_code, 4, (Option.some Jvm.ClassFile.FieldType.boolean), 1, 5, [(2, 5, 0, 0), (0, 0, 0, 0)], [(some (0, 0, 0, 0), []), (some (0, 0, 1, 1), [])], [(5, 4, 0), (7, 3, 0), (7, 5, 0), (7, 2, 0), (7, 4, 0), (35, 1001, 0), (8, 7, 0)], (47, 1083, 0, 0))
theorem zq_136 {l : Launch} {w : zk_W} (hW : zh_W w) : zh_K l w zK_136 := zh_meth hW (lk := [(2, 24, 5, 0, 18), (9, 132, 208, 0, 0), (2, 16, 5, 1, 18)]) (KS := [zK_135, zK_103, zK_39, zK_62, zK_98]) (km := [72, 68, 43, 66, 76]) (lc := [(0, 129, 72), (0, 90, 68), (0, 60, 43), (0, 123, 66), (0, 134, 76)]) (CL0 := zc_X5_test) (ns := [(25, 1, []), (35, 2, []), (44, 3, []), (63, 4, [])]) (AN := [(12, ([(0, 0, 0, 0), (1, 0, 0, 0), (2, 0, (-1), (-1)), (2, 5, 0, 0), (0, 0, 0, 0), (0, 0, 0, 400)], [], [], [], [(2, (5, 0)), (0, (3, 0)), (1, (4, 0))], [(0, 3), (1, 4)], []), [], 0, 0, (400, [((-1), 5)]))]) (fuel := 206) (pl := 846) (by decide +kernel) (by decide +kernel) zd_X5_test (by
  intro K h
  rcases List.mem_cons.mp h with rfl | h
  · exact zq_135 hW
  rcases List.mem_cons.mp h with rfl | h
  · exact zq_103 hW
  rcases List.mem_cons.mp h with rfl | h
  · exact zq_39 hW
  rcases List.mem_cons.mp h with rfl | h
  · exact zq_62 hW
  rw [List.mem_singleton.mp h]
  exact zq_98 hW)
/-- X5_condition -/
def zK_137 : zk_K := (zt_mn 70, prog_7_method_6_code, 1, (Option.some Jvm.ClassFile.FieldType.boolean), 1, 5, [(2, 5, 0, 0)], [(some (0, 0, 0, 0), []), (some (0, 0, 1, 1), [])], [(7, 3, 0), (7, 5, 0), (7, 2, 0), (7, 4, 0), (34, 1002, 0), (5, 4, 0), (35, 1001, 0), (8, 7, 0)], (48, 1106, 0, 0))
theorem zq_137 {l : Launch} {w : zk_W} (hW : zh_W w) : zh_K l w zK_137 := zh_meth hW (lk := [(2, 24, 5, 0, 18), (9, 112, 205, 0, 0), (2, 16, 5, 1, 18), (2, 114, 8, 4, 34), (2, 117, 8, 7, 0)]) (KS := [zK_48, zK_39, zK_49, zK_136, zK_62]) (km := [68, 43, 60, 71, 66]) (lc := [(0, 90, 68), (0, 60, 43), (0, 108, 60), (0, 120, 71), (0, 123, 66)]) (CL0 := zc_X5_condition) (ns := [(18, 1, []), (39, 2, []), (44, 3, []), (58, 4, [])]) (AN := []) (fuel := 182) (pl := 841) (by decide +kernel) (by decide +kernel) zd_X5_condition (by
  intro K h
  rcases List.mem_cons.mp h with rfl | h
  · exact zq_48 hW
  rcases List.mem_cons.mp h with rfl | h
  · exact zq_39 hW
  rcases List.mem_cons.mp h with rfl | h
  · exact zq_49 hW
  rcases List.mem_cons.mp h with rfl | h
  · exact zq_136 hW
  rw [List.mem_singleton.mp h]
  exact zq_62 hW)
/-- X8_tell -/
def zK_138 : zk_K := (zt_mn 60, prog_10_method_5_code, 3, (Option.none : Option Jvm.ClassFile.FieldType), 1, 8, [(2, 8, 0, 0), (2, 31, 0, 0), (0, 0, (-1), 872)], [(none, [])], [(31, 1002, 0)], (0, 0, 0, 0))
theorem zq_138 {l : Launch} {w : zk_W} (hW : zh_W w) : zh_K l w zK_138 := zh_meth hW (lk := [(2, 41, 8, 6, 0)]) (KS := []) (km := []) (lc := []) (CL0 := zc_X8_tell) (ns := []) (AN := []) (fuel := 118) (pl := 794) (by decide +kernel) (by decide +kernel) zd_X8_tell (fun K h => nomatch h)
/-- X5_wholeSum -/
def zK_139 : zk_K := (zt_mn 59, prog_7_method_7_code, 2, (Option.some Jvm.ClassFile.FieldType.boolean), 1, 5, [(2, 5, 0, 0), (2, 31, 0, 0)], [(some (0, 0, 0, 0), []), (some (0, 0, 1, 1), [])], [(31, 1002, 0), (5, 4, 0), (7, 3, 0), (7, 5, 0), (7, 2, 0), (7, 4, 0), (35, 1001, 0), (8, 7, 0)], (37, 885, 0, 0))
theorem zq_139 {l : Launch} {w : zk_W} (hW : zh_W w) : zh_K l w zK_139 := zh_meth hW (lk := [(2, 16, 5, 1, 18), (2, 117, 8, 7, 0)]) (KS := [zK_138, zK_90, zK_62]) (km := [60, 61, 66]) (lc := [(0, 108, 60), (0, 126, 61), (0, 123, 66)]) (CL0 := zc_X5_wholeSum) (ns := [(17, 1, []), (31, 2, [])]) (AN := []) (fuel := 134) (pl := 790) (by decide +kernel) (by decide +kernel) zd_X5_wholeSum (by
  intro K h
  rcases List.mem_cons.mp h with rfl | h
  · exact zq_138 hW
  rcases List.mem_cons.mp h with rfl | h
  · exact zq_90 hW
  rw [List.mem_singleton.mp h]
  exact zq_62 hW)
/-- X5_lawClause -/
def zK_140 : zk_K := (zt_mn 77, prog_7_method_3_code, 2, (Option.some Jvm.ClassFile.FieldType.boolean), 1, 5, [(2, 5, 0, 0)], [(some (0, 0, 0, 0), []), (some (0, 0, 1, 1), [])], [(30, 1002, 0), (31, 1002, 0), (32, 1002, 0), (33, 1002, 0), (34, 1002, 0), (8, 6, 0), (7, 3, 0), (7, 5, 0), (7, 2, 0), (7, 4, 0), (5, 4, 0), (35, 1001, 0), (8, 7, 0)], (49, 1126, 0, 0))
theorem zq_140 {l : Launch} {w : zk_W} (hW : zh_W w) : zh_K l w zK_140 := zh_meth hW (lk := [(2, 24, 5, 0, 18), (9, 63, 209, 0, 0), (2, 16, 5, 1, 18), (2, 75, 8, 1, 34)]) (KS := [zK_43, zK_44, zK_39, zK_139, zK_137]) (km := [46, 58, 43, 59, 70]) (lc := [(0, 65, 46), (0, 69, 58), (0, 60, 43), (0, 79, 59), (0, 83, 70)]) (CL0 := zc_X5_lawClause) (ns := [(20, 1, []), (32, 2, []), (48, 3, []), (55, 4, [])]) (AN := []) (fuel := 186) (pl := 873) (by decide +kernel) (by decide +kernel) zd_X5_lawClause (by
  intro K h
  rcases List.mem_cons.mp h with rfl | h
  · exact zq_43 hW
  rcases List.mem_cons.mp h with rfl | h
  · exact zq_44 hW
  rcases List.mem_cons.mp h with rfl | h
  · exact zq_39 hW
  rcases List.mem_cons.mp h with rfl | h
  · exact zq_139 hW
  rw [List.mem_singleton.mp h]
  exact zq_137 hW)
/-- X7_wordIn -/
def zK_143 : zk_K := (zt_mn 46, prog_9_method_10_code, 6, (Option.some Jvm.ClassFile.FieldType.int), 1, 7, [(2, 7, 0, 0), (2, 200, 0, 0)], [(some (0, 0, (-1), (-1)), []), (some (0, 0, 0, 31), [])], [], (9, 221, 0, 0))
theorem zq_143 {l : Launch} {w : zk_W} (hW : zh_W w) : zh_K l w zK_143 := zh_meth hW (lk := [(2, 35, 7, 2, 0), (2, 29, 7, 3, 0), (2, 19, 7, 4, 0)]) (KS := [zK_141, zK_142, zK_33]) (km := [47, 49, 37]) (lc := [(0, 45, 47), (0, 50, 49), (0, 25, 37)]) (CL0 := zc_X7_wordIn) (ns := [(38, 1, []), (67, 2, []), (109, 0, [(0, 0, 0)])]) (AN := [(17, ([(0, 0, 0, 0), (1, 0, 0, 0), (2, 0, (-1), (-1)), (2, 7, 0, 0), (2, 200, 0, 0), (0, 0, 0, 31), (0, 0, (-1), 31), (0, 0, 0, 31), (0, 0, 1, 1)], [(6, 5, 0), (7, 5, 0), (7, 6, 18)], [(3, 2, (8, 0))], [], [(4, (5, 0)), (3, (6, 0)), (2, (7, 0)), (0, (3, 0)), (1, (4, 0))], [(0, 3), (1, 4)], []), [], 0, 0, (31, [((-1), 5)]))]) (fuel := 302) (pl := 733) (by decide +kernel) (by decide +kernel) zd_X7_wordIn (by
  intro K h
  rcases List.mem_cons.mp h with rfl | h
  · exact zq_141 hW
  rcases List.mem_cons.mp h with rfl | h
  · exact zq_142 hW
  rw [List.mem_singleton.mp h]
  exact zq_33 hW)
/-- X7_wordIn -/
def zK_146 : zk_K := (zt_mn 46, prog_9_method_10_code, 6, (Option.some Jvm.ClassFile.FieldType.int), 1, 7, [(2, 7, 0, 0), (2, 204, 0, 0)], [(some (0, 0, (-1), (-1)), []), (some (0, 0, 0, 12), [])], [], (9, 221, 0, 0))
theorem zq_146 {l : Launch} {w : zk_W} (hW : zh_W w) : zh_K l w zK_146 := zh_meth hW (lk := [(2, 35, 7, 2, 0), (2, 29, 7, 3, 0), (2, 19, 7, 4, 0)]) (KS := [zK_144, zK_145, zK_33]) (km := [47, 49, 37]) (lc := [(0, 45, 47), (0, 50, 49), (0, 25, 37)]) (CL0 := zc_X7_wordIn) (ns := [(38, 1, []), (67, 2, []), (109, 0, [(0, 0, 0)])]) (AN := [(17, ([(0, 0, 0, 0), (1, 0, 0, 0), (2, 0, (-1), (-1)), (2, 7, 0, 0), (2, 204, 0, 0), (0, 0, 0, 12), (0, 0, (-1), 12), (0, 0, 0, 12), (0, 0, 1, 1)], [(6, 5, 0), (7, 5, 0), (7, 6, 6)], [(3, 2, (8, 0))], [], [(4, (5, 0)), (3, (6, 0)), (2, (7, 0)), (0, (3, 0)), (1, (4, 0))], [(0, 3), (1, 4)], []), [], 0, 0, (12, [((-1), 5)]))]) (fuel := 302) (pl := 733) (by decide +kernel) (by decide +kernel) zd_X7_wordIn (by
  intro K h
  rcases List.mem_cons.mp h with rfl | h
  · exact zq_144 hW
  rcases List.mem_cons.mp h with rfl | h
  · exact zq_145 hW
  rw [List.mem_singleton.mp h]
  exact zq_33 hW)
/-- X7_isWord -/
def zK_147 : zk_K := (zt_mn 68, prog_9_method_9_code, 2, (Option.some Jvm.ClassFile.FieldType.boolean), 1, 7, [(2, 7, 0, 0), (2, 204, 0, 0)], [(some (0, 0, 0, 0), []), (some (0, 0, 1, 1), [])], [], (10, 246, 0, 0))
theorem zq_147 {l : Launch} {w : zk_W} (hW : zh_W w) : zh_K l w zK_147 := zh_meth hW (lk := []) (KS := [zK_146]) (km := [46]) (lc := [(0, 41, 46)]) (CL0 := zc_X7_isWord) (ns := []) (AN := []) (fuel := 82) (pl := 831) (by decide +kernel) (by decide +kernel) zd_X7_isWord (by
  intro K h
  rw [List.mem_singleton.mp h]
  exact zq_146 hW)
/-- X8_tell -/
def zK_148 : zk_K := (zt_mn 60, prog_10_method_5_code, 3, (Option.none : Option Jvm.ClassFile.FieldType), 1, 8, [(2, 8, 0, 0), (2, 33, 0, 0), (0, 0, (-1), 872)], [(none, [])], [(33, 1002, 0)], (0, 0, 0, 0))
theorem zq_148 {l : Launch} {w : zk_W} (hW : zh_W w) : zh_K l w zK_148 := zh_meth hW (lk := [(2, 41, 8, 6, 0)]) (KS := []) (km := []) (lc := []) (CL0 := zc_X8_tell) (ns := []) (AN := []) (fuel := 118) (pl := 794) (by decide +kernel) (by decide +kernel) zd_X8_tell (fun K h => nomatch h)
/-- X5_repeats -/
def zK_149 : zk_K := (zt_mn 69, prog_7_method_5_code, 2, (Option.some Jvm.ClassFile.FieldType.boolean), 1, 5, [(2, 5, 0, 0)], [(some (0, 0, 0, 0), []), (some (0, 0, 1, 1), [])], [(7, 3, 0), (7, 5, 0), (7, 2, 0), (7, 4, 0), (33, 1002, 0)], (11, 267, 0, 0))
theorem zq_149 {l : Launch} {w : zk_W} (hW : zh_W w) : zh_K l w zK_149 := zh_meth hW (lk := [(2, 24, 5, 0, 18), (9, 100, 204, 0, 0), (2, 16, 5, 1, 18), (2, 106, 8, 3, 34)]) (KS := [zK_147, zK_39, zK_61, zK_148]) (km := [68, 43, 65, 60]) (lc := [(0, 90, 68), (0, 60, 43), (0, 102, 65), (0, 108, 60)]) (CL0 := zc_X5_repeats) (ns := [(18, 1, []), (28, 2, []), (51, 3, []), (58, 1, [])]) (AN := []) (fuel := 182) (pl := 836) (by decide +kernel) (by decide +kernel) zd_X5_repeats (by
  intro K h
  rcases List.mem_cons.mp h with rfl | h
  · exact zq_147 hW
  rcases List.mem_cons.mp h with rfl | h
  · exact zq_39 hW
  rcases List.mem_cons.mp h with rfl | h
  · exact zq_61 hW
  rw [List.mem_singleton.mp h]
  exact zq_148 hW)
/-- X7_wordIn -/
def zK_152 : zk_K := (zt_mn 46, prog_9_method_10_code, 6, (Option.some Jvm.ClassFile.FieldType.int), 1, 7, [(2, 7, 0, 0), (2, 203, 0, 0)], [(some (0, 0, (-1), (-1)), []), (some (0, 0, 0, 12), [])], [], (9, 221, 0, 0))
theorem zq_152 {l : Launch} {w : zk_W} (hW : zh_W w) : zh_K l w zK_152 := zh_meth hW (lk := [(2, 35, 7, 2, 0), (2, 29, 7, 3, 0), (2, 19, 7, 4, 0)]) (KS := [zK_150, zK_151, zK_33]) (km := [47, 49, 37]) (lc := [(0, 45, 47), (0, 50, 49), (0, 25, 37)]) (CL0 := zc_X7_wordIn) (ns := [(38, 1, []), (67, 2, []), (109, 0, [(0, 0, 0)])]) (AN := [(17, ([(0, 0, 0, 0), (1, 0, 0, 0), (2, 0, (-1), (-1)), (2, 7, 0, 0), (2, 203, 0, 0), (0, 0, 0, 12), (0, 0, (-1), 2), (0, 0, 0, 12), (0, 0, 1, 1)], [(6, 5, 0), (7, 5, 0), (7, 6, 3)], [(3, 2, (8, 0))], [], [(4, (5, 0)), (3, (6, 0)), (2, (7, 0)), (0, (3, 0)), (1, (4, 0))], [(0, 3), (1, 4)], []), [], 0, 0, (12, [((-1), 5)]))]) (fuel := 302) (pl := 733) (by decide +kernel) (by decide +kernel) zd_X7_wordIn (by
  intro K h
  rcases List.mem_cons.mp h with rfl | h
  · exact zq_150 hW
  rcases List.mem_cons.mp h with rfl | h
  · exact zq_151 hW
  rw [List.mem_singleton.mp h]
  exact zq_33 hW)
/-- X7_isWord -/
def zK_153 : zk_K := (zt_mn 68, prog_9_method_9_code, 2, (Option.some Jvm.ClassFile.FieldType.boolean), 1, 7, [(2, 7, 0, 0), (2, 203, 0, 0)], [(some (0, 0, 0, 0), []), (some (0, 0, 1, 1), [])], [], (10, 246, 0, 0))
theorem zq_153 {l : Launch} {w : zk_W} (hW : zh_W w) : zh_K l w zK_153 := zh_meth hW (lk := []) (KS := [zK_152]) (km := [46]) (lc := [(0, 41, 46)]) (CL0 := zc_X7_isWord) (ns := []) (AN := []) (fuel := 82) (pl := 831) (by decide +kernel) (by decide +kernel) zd_X7_isWord (by
  intro K h
  rw [List.mem_singleton.mp h]
  exact zq_152 hW)
