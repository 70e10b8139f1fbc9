/-! part 63: contracts of the class, by the checker -/
/-- X5_part -/
def zK_88 : zk_K := (zt_mn 63, prog_7_method_16_code, 6, (Option.some Jvm.ClassFile.FieldType.boolean), 1, 5, [(2, 5, 0, 0), (0, 0, 0, 0)], [(some (0, 0, 0, 0), []), (some (0, 0, 1, 1), [])], [(5, 4, 0), (7, 3, 0), (7, 5, 0), (7, 2, 0), (7, 4, 0), (35, 1001, 0), (8, 7, 0)], (34, 814, 0, 0))
theorem zq_88 {l : Launch} {w : zk_W} (hW : zh_W w) : zh_K l w zK_88 := zh_meth hW (lk := [(2, 24, 5, 0, 18), (2, 32, 5, 4, 0), (2, 50, 7, 2, 0), (2, 28, 5, 3, 3), (9, 161, 201, 0, 0), (9, 163, 202, 0, 0), (2, 16, 5, 1, 18)]) (KS := [zK_54, zK_39, zK_87, zK_61, zK_57, zK_60, zK_62]) (km := [64, 43, 61, 65, 46, 46, 66]) (lc := [(0, 53, 64), (0, 60, 43), (0, 126, 61), (0, 102, 65), (0, 65, 46), (0, 123, 66)]) (CL0 := zc_X5_part) (ns := [(24, 1, []), (31, 2, []), (55, 1, []), (111, 3, []), (135, 4, [(5, 0, 1001)]), (150, 1, []), (198, 3, []), (215, 1, []), (239, 6, [])]) (AN := [(233, ([(0, 0, 0, 0), (1, 0, 0, 0), (2, 0, (-1), (-1)), (2, 5, 0, 0), (0, 0, 0, 0), (0, 0, 0, 1000), (0, 0, 1, 2), (0, 0, 0, 1), (0, 0, (-2147483647), 50), (2, 7, 0, 0)], [], [(3, 3, (7, 0)), (3, 4, (8, 0)), (3, 0, (9, 0))], [], [(3, (5, 0)), (2, (6, 0)), (0, (3, 0))], [(0, 3), (1, 4)], []), [], 0, 0, (0, [])),
  (198, ([(0, 0, 0, 0), (1, 0, 0, 0), (2, 0, (-1), (-1)), (2, 5, 0, 0), (0, 0, 0, 0), (0, 0, 0, 1), (0, 0, 5, 9), (2, 7, 0, 0), (0, 0, 1, 1), (0, 0, (-2147483647), 50)], [], [(3, 3, (8, 0)), (3, 4, (9, 0)), (3, 0, (7, 0))], [], [(4, (5, 0)), (2, (0, 2)), (0, (3, 0))], [(0, 3), (1, 4)], []), [(6, 0), (0, 0), (7, 0)], 0, 0, (1, []))]) (fuel := 566) (pl := 806) (by decide +kernel) (by decide +kernel) zd_X5_part (by
  intro K h
  rcases List.mem_cons.mp h with rfl | h
  · exact zq_54 hW
  rcases List.mem_cons.mp h with rfl | h
  · exact zq_39 hW
  rcases List.mem_cons.mp h with rfl | h
  · exact zq_87 hW
  rcases List.mem_cons.mp h with rfl | h
  · exact zq_61 hW
  rcases List.mem_cons.mp h with rfl | h
  · exact zq_57 hW
  rcases List.mem_cons.mp h with rfl | h
  · exact zq_60 hW
  rw [List.mem_singleton.mp h]
  exact zq_62 hW)
/-- X5_term -/
def zK_89 : zk_K := (zt_mn 62, prog_7_method_14_code, 4, (Option.some Jvm.ClassFile.FieldType.boolean), 1, 5, [(2, 5, 0, 0), (0, 0, 0, 0)], [(some (0, 0, 0, 0), []), (some (0, 0, 1, 1), [])], [(5, 4, 0), (7, 3, 0), (7, 5, 0), (7, 2, 0), (7, 4, 0), (35, 1001, 0), (8, 7, 0)], (35, 839, 0, 0))
theorem zq_89 {l : Launch} {w : zk_W} (hW : zh_W w) : zh_K l w zK_89 := zh_meth hW (lk := [(2, 24, 5, 0, 18), (2, 16, 5, 1, 18)]) (KS := [zK_88, zK_64, zK_39, zK_62]) (km := [63, 67, 43, 66]) (lc := [(0, 155, 63), (0, 158, 67), (0, 60, 43), (0, 123, 66)]) (CL0 := zc_X5_term) (ns := [(11, 1, []), (33, 2, []), (52, 3, []), (57, 1, [])]) (AN := [(17, ([(0, 0, 0, 0), (1, 0, 0, 0), (2, 0, (-1), (-1)), (2, 5, 0, 0), (0, 0, 0, 0), (0, 0, 0, 400), (0, 0, (-1), 10)], [], [], [], [(3, (5, 0)), (2, (6, 0)), (0, (3, 0)), (1, (4, 0))], [(0, 3), (1, 4)], []), [], 0, 0, (400, [((-1), 5)]))]) (fuel := 206) (pl := 802) (by decide +kernel) (by decide +kernel) zd_X5_term (by
  intro K h
  rcases List.mem_cons.mp h with rfl | h
  · exact zq_88 hW
  rcases List.mem_cons.mp h with rfl | h
  · exact zq_64 hW
  rcases List.mem_cons.mp h with rfl | h
  · exact zq_39 hW
  rw [List.mem_singleton.mp h]
  exact zq_62 hW)
/-- X5_sum -/
def zK_90 : zk_K := (zt_mn 61, prog_7_method_13_code, 4, (Option.some Jvm.ClassFile.FieldType.boolean), 1, 5, [(2, 5, 0, 0), (0, 0, 0, 0)], [(some (0, 0, 0, 0), []), (some (0, 0, 1, 1), [])], [(5, 4, 0), (7, 3, 0), (7, 5, 0), (7, 2, 0), (7, 4, 0), (35, 1001, 0), (8, 7, 0)], (36, 862, 0, 0))
theorem zq_90 {l : Launch} {w : zk_W} (hW : zh_W w) : zh_K l w zK_90 := zh_meth hW (lk := [(2, 24, 5, 0, 18), (2, 16, 5, 1, 18)]) (KS := [zK_89, zK_54, zK_39, zK_62]) (km := [62, 64, 43, 66]) (lc := [(0, 152, 62), (0, 53, 64), (0, 60, 43), (0, 123, 66)]) (CL0 := zc_X5_sum) (ns := [(25, 1, []), (37, 1, []), (49, 1, []), (67, 2, []), (86, 3, [])]) (AN := [(12, ([(0, 0, 0, 0), (1, 0, 0, 0), (2, 0, (-1), (-1)), (2, 5, 0, 0), (0, 0, 0, 0), (0, 0, 0, 400)], [], [], [], [(2, (5, 0)), (0, (3, 0)), (1, (4, 0))], [(0, 3), (1, 4)], []), [], 0, 0, (400, [((-1), 5)]))]) (fuel := 246) (pl := 798) (by decide +kernel) (by decide +kernel) zd_X5_sum (by
  intro K h
  rcases List.mem_cons.mp h with rfl | h
  · exact zq_89 hW
  rcases List.mem_cons.mp h with rfl | h
  · exact zq_54 hW
  rcases List.mem_cons.mp h with rfl | h
  · exact zq_39 hW
  rw [List.mem_singleton.mp h]
  exact zq_62 hW)
/-- X5_comparison -/
def zK_91 : zk_K := (zt_mn 75, prog_7_method_11_code, 1, (Option.some Jvm.ClassFile.FieldType.int), 1, 5, [(2, 5, 0, 0)], [(some (0, 0, (-1), (-1)), []), (some (0, 0, 11, 13), [])], [], (1, 21, 0, 0))
theorem zq_91 {l : Launch} {w : zk_W} (hW : zh_W w) : zh_K l w zK_91 := zh_meth hW (lk := [(2, 24, 5, 0, 18)]) (KS := [zK_54]) (km := [64]) (lc := [(0, 53, 64)]) (CL0 := zc_X5_comparison) (ns := []) (AN := []) (fuel := 142) (pl := 863) (by decide +kernel) (by decide +kernel) zd_X5_comparison (by
  intro K h
  rw [List.mem_singleton.mp h]
  exact zq_54 hW)
/-- X5_bracketed -/
def zK_92 : zk_K := (zt_mn 74, prog_7_method_12_code, 2, (Option.some Jvm.ClassFile.FieldType.boolean), 1, 5, [(2, 5, 0, 0), (0, 0, 8, 8)], [(some (0, 0, 0, 0), [])], [], (0, 0, 0, 0))
theorem zq_92 {l : Launch} {w : zk_W} (hW : zh_W w) : zh_K l w zK_92 := zh_meth hW (lk := [(2, 24, 5, 0, 18)]) (KS := []) (km := []) (lc := [(0, 60, 43), (0, 120, 71), (0, 53, 64)]) (CL0 := zc_X5_bracketed) (ns := []) (AN := []) (fuel := 154) (pl := 859) (by decide +kernel) (by decide +kernel) zd_X5_bracketed (fun K h => nomatch h)
/-- X5_plain -/
def zK_93 : zk_K := (zt_mn 73, prog_7_method_10_code, 4, (Option.some Jvm.ClassFile.FieldType.boolean), 1, 5, [(2, 5, 0, 0), (0, 0, 8, 8)], [(some (0, 0, 0, 0), []), (some (0, 0, 1, 1), [])], [(5, 4, 0), (7, 3, 0), (7, 5, 0), (7, 2, 0), (7, 4, 0), (35, 1001, 0), (8, 7, 0)], (13, 317, 0, 0))
theorem zq_93 {l : Launch} {w : zk_W} (hW : zh_W w) : zh_K l w zK_93 := zh_meth hW (lk := [(2, 24, 5, 0, 18), (9, 143, 206, 0, 0), (2, 16, 5, 1, 18)]) (KS := [zK_53, zK_39, zK_54, zK_92, zK_66, zK_91, zK_62]) (km := [68, 43, 64, 74, 61, 75, 66]) (lc := [(0, 90, 68), (0, 60, 43), (0, 53, 64), (0, 145, 74), (0, 126, 61), (0, 148, 75), (0, 123, 66)]) (CL0 := zc_X5_plain) (ns := [(27, 1, []), (52, 2, []), (60, 3, []), (70, 4, []), (79, 5, []), (94, 1, []), (99, 4, []), (113, 6, []), (127, 6, [])]) (AN := [(4, ([(0, 0, 0, 0), (1, 0, 0, 0), (2, 0, (-1), (-1)), (2, 5, 0, 0), (0, 0, 8, 8), (0, 0, 0, 400), (0, 0, 0, 1)], [(6, 5, 0)], [], [], [(3, (5, 0)), (2, (6, 0)), (0, (3, 0)), (1, (4, 0))], [(0, 3), (1, 4)], []), [], 0, 0, (400, [((-1), 5)]))]) (fuel := 342) (pl := 854) (by decide +kernel) (by decide +kernel) zd_X5_plain (by
  intro K h
  rcases List.mem_cons.mp h with rfl | h
  · exact zq_53 hW
  rcases List.mem_cons.mp h with rfl | h
  · exact zq_39 hW
  rcases List.mem_cons.mp h with rfl | h
  · exact zq_54 hW
  rcases List.mem_cons.mp h with rfl | h
  · exact zq_92 hW
  rcases List.mem_cons.mp h with rfl | h
  · exact zq_66 hW
  rcases List.mem_cons.mp h with rfl | h
  · exact zq_91 hW
  rw [List.mem_singleton.mp h]
  exact zq_62 hW)
/-- X7_wordIn -/
def zK_96 : zk_K := (zt_mn 46, prog_9_method_10_code, 6, (Option.some Jvm.ClassFile.FieldType.int), 1, 7, [(2, 7, 0, 0), (2, 207, 0, 0)], [(some (0, 0, (-1), (-1)), []), (some (0, 0, 0, 12), [])], [], (9, 221, 0, 0))
theorem zq_96 {l : Launch} {w : zk_W} (hW : zh_W w) : zh_K l w zK_96 := zh_meth hW (lk := [(2, 35, 7, 2, 0), (2, 29, 7, 3, 0), (2, 19, 7, 4, 0)]) (KS := [zK_94, zK_95, zK_33]) (km := [47, 49, 37]) (lc := [(0, 45, 47), (0, 50, 49), (0, 25, 37)]) (CL0 := zc_X7_wordIn) (ns := [(38, 1, []), (67, 2, []), (109, 0, [(0, 0, 0)])]) (AN := [(17, ([(0, 0, 0, 0), (1, 0, 0, 0), (2, 0, (-1), (-1)), (2, 7, 0, 0), (2, 207, 0, 0), (0, 0, 0, 12), (0, 0, (-1), 12), (0, 0, 0, 12), (0, 0, 1, 1)], [(6, 5, 0), (7, 5, 0), (7, 6, 4)], [(3, 2, (8, 0))], [], [(4, (5, 0)), (3, (6, 0)), (2, (7, 0)), (0, (3, 0)), (1, (4, 0))], [(0, 3), (1, 4)], []), [], 0, 0, (12, [((-1), 5)]))]) (fuel := 302) (pl := 733) (by decide +kernel) (by decide +kernel) zd_X7_wordIn (by
  intro K h
  rcases List.mem_cons.mp h with rfl | h
  · exact zq_94 hW
  rcases List.mem_cons.mp h with rfl | h
  · exact zq_95 hW
  rw [List.mem_singleton.mp h]
  exact zq_33 hW)
/-- X7_isWord -/
def zK_97 : zk_K := (zt_mn 68, prog_9_method_9_code, 2, (Option.some Jvm.ClassFile.FieldType.boolean), 1, 7, [(2, 7, 0, 0), (2, 207, 0, 0)], [(some (0, 0, 0, 0), []), (some (0, 0, 1, 1), [])], [], (10, 246, 0, 0))
theorem zq_97 {l : Launch} {w : zk_W} (hW : zh_W w) : zh_K l w zK_97 := zh_meth hW (lk := []) (KS := [zK_96]) (km := [46]) (lc := [(0, 41, 46)]) (CL0 := zc_X7_isWord) (ns := []) (AN := []) (fuel := 82) (pl := 831) (by decide +kernel) (by decide +kernel) zd_X7_isWord (by
  intro K h
  rw [List.mem_singleton.mp h]
  exact zq_96 hW)
/-- X8_leapHere -/
def zK_98 : zk_K := (zt_mn 76, prog_10_method_7_code, 2, (Option.none : Option Jvm.ClassFile.FieldType), 1, 8, [(2, 8, 0, 0), (0, 0, (-1), 872)], [(none, [])], [(35, 1001, 0)], (0, 0, 0, 0))
theorem zq_98 {l : Launch} {w : zk_W} (hW : zh_W w) : zh_K l w zK_98 := zh_meth hW (lk := [(2, 38, 8, 5, 18), (2, 45, 8, 7, 0)]) (KS := []) (km := []) (lc := []) (CL0 := zc_X8_leapHere) (ns := []) (AN := []) (fuel := 122) (pl := 868) (by decide +kernel) (by decide +kernel) zd_X8_leapHere (fun K h => nomatch h)
/-- X5_both -/
def zK_99 : zk_K := (zt_mn 72, prog_7_method_9_code, 4, (Option.some Jvm.ClassFile.FieldType.boolean), 1, 5, [(2, 5, 0, 0), (0, 0, 8, 8)], [(some (0, 0, 0, 0), []), (some (0, 0, 1, 1), [])], [(5, 4, 0), (7, 3, 0), (7, 5, 0), (7, 2, 0), (7, 4, 0), (35, 1001, 0), (8, 7, 0)], (14, 340, 0, 0))
theorem zq_99 {l : Launch} {w : zk_W} (hW : zh_W w) : zh_K l w zK_99 := zh_meth hW (lk := [(2, 24, 5, 0, 18), (9, 141, 207, 0, 0), (2, 16, 5, 1, 18)]) (KS := [zK_93, zK_97, zK_39, zK_62, zK_98]) (km := [73, 68, 43, 66, 76]) (lc := [(0, 138, 73), (0, 90, 68), (0, 60, 43), (0, 123, 66), (0, 134, 76)]) (CL0 := zc_X5_both) (ns := [(25, 1, []), (35, 2, []), (44, 3, []), (63, 4, [])]) (AN := [(12, ([(0, 0, 0, 0), (1, 0, 0, 0), (2, 0, (-1), (-1)), (2, 5, 0, 0), (0, 0, 8, 8), (0, 0, 0, 400)], [], [], [], [(2, (5, 0)), (0, (3, 0)), (1, (4, 0))], [(0, 3), (1, 4)], []), [], 0, 0, (400, [((-1), 5)]))]) (fuel := 206) (pl := 850) (by decide +kernel) (by decide +kernel) zd_X5_both (by
  intro K h
  rcases List.mem_cons.mp h with rfl | h
  · exact zq_93 hW
  rcases List.mem_cons.mp h with rfl | h
  · exact zq_97 hW
  rcases List.mem_cons.mp h with rfl | h
  · exact zq_39 hW
  rcases List.mem_cons.mp h with rfl | h
  · exact zq_62 hW
  rw [List.mem_singleton.mp h]
  exact zq_98 hW)
/-- X7_wordIn -/
def zK_102 : zk_K := (zt_mn 46, prog_9_method_10_code, 6, (Option.some Jvm.ClassFile.FieldType.int), 1, 7, [(2, 7, 0, 0), (2, 208, 0, 0)], [(some (0, 0, (-1), (-1)), []), (some (0, 0, 0, 12), [])], [], (9, 221, 0, 0))
theorem zq_102 {l : Launch} {w : zk_W} (hW : zh_W w) : zh_K l w zK_102 := zh_meth hW (lk := [(2, 35, 7, 2, 0), (2, 29, 7, 3, 0), (2, 19, 7, 4, 0)]) (KS := [zK_100, zK_101, zK_33]) (km := [47, 49, 37]) (lc := [(0, 45, 47), (0, 50, 49), (0, 25, 37)]) (CL0 := zc_X7_wordIn) (ns := [(38, 1, []), (67, 2, []), (109, 0, [(0, 0, 0)])]) (AN := [(17, ([(0, 0, 0, 0), (1, 0, 0, 0), (2, 0, (-1), (-1)), (2, 7, 0, 0), (2, 208, 0, 0), (0, 0, 0, 12), (0, 0, (-1), 2), (0, 0, 0, 12), (0, 0, 1, 1)], [(6, 5, 0), (7, 5, 0), (7, 6, 3)], [(3, 2, (8, 0))], [], [(4, (5, 0)), (3, (6, 0)), (2, (7, 0)), (0, (3, 0)), (1, (4, 0))], [(0, 3), (1, 4)], []), [], 0, 0, (12, [((-1), 5)]))]) (fuel := 302) (pl := 733) (by decide +kernel) (by decide +kernel) zd_X7_wordIn (by
  intro K h
  rcases List.mem_cons.mp h with rfl | h
  · exact zq_100 hW
  rcases List.mem_cons.mp h with rfl | h
  · exact zq_101 hW
  rw [List.mem_singleton.mp h]
  exact zq_33 hW)
/-- X7_isWord -/
def zK_103 : zk_K := (zt_mn 68, prog_9_method_9_code, 2, (Option.some Jvm.ClassFile.FieldType.boolean), 1, 7, [(2, 7, 0, 0), (2, 208, 0, 0)], [(some (0, 0, 0, 0), []), (some (0, 0, 1, 1), [])], [], (10, 246, 0, 0))
theorem zq_103 {l : Launch} {w : zk_W} (hW : zh_W w) : zh_K l w zK_103 := zh_meth hW (lk := []) (KS := [zK_102]) (km := [46]) (lc := [(0, 41, 46)]) (CL0 := zc_X7_isWord) (ns := []) (AN := []) (fuel := 82) (pl := 831) (by decide +kernel) (by decide +kernel) zd_X7_isWord (by
  intro K h
  rw [List.mem_singleton.mp h]
  exact zq_102 hW)
/-- X5_test -/
def zK_104 : zk_K := (zt_mn 71, prog_7_method_8_code, 4, (Option.some Jvm.ClassFile.FieldType.boolean), 1, 5, [(2, 5, 0, 0), (0, 0, 8, 8)], [(some (0, 0, 0, 0), []), (some (0, 0, 1, 1), [])], [(5, 4, 0), (7, 3, 0), (7, 5, 0), (7, 2, 0), (7, 4, 0), (35, 1001, 0), (8, 7, 0)], (15, 363, 0, 0))
theorem zq_104 {l : Launch} {w : zk_W} (hW : zh_W w) : zh_K l w zK_104 := zh_meth hW (lk := [(2, 24, 5, 0, 18), (9, 132, 208, 0, 0), (2, 16, 5, 1, 18)]) (KS := [zK_99, zK_103, zK_39, zK_62, zK_98]) (km := [72, 68, 43, 66, 76]) (lc := [(0, 129, 72), (0, 90, 68), (0, 60, 43), (0, 123, 66), (0, 134, 76)]) (CL0 := zc_X5_test) (ns := [(25, 1, []), (35, 2, []), (44, 3, []), (63, 4, [])]) (AN := [(12, ([(0, 0, 0, 0), (1, 0, 0, 0), (2, 0, (-1), (-1)), (2, 5, 0, 0), (0, 0, 8, 8), (0, 0, 0, 400)], [], [], [], [(2, (5, 0)), (0, (3, 0)), (1, (4, 0))], [(0, 3), (1, 4)], []), [], 0, 0, (400, [((-1), 5)]))]) (fuel := 206) (pl := 846) (by decide +kernel) (by decide +kernel) zd_X5_test (by
  intro K h
  rcases List.mem_cons.mp h with rfl | h
  · exact zq_99 hW
  rcases List.mem_cons.mp h with rfl | h
  · exact zq_103 hW
  rcases List.mem_cons.mp h with rfl | h
  · exact zq_39 hW
  rcases List.mem_cons.mp h with rfl | h
  · exact zq_62 hW
  rw [List.mem_singleton.mp h]
  exact zq_98 hW)
/-- X5_bracketed -/
def zK_105 : zk_K := (zt_mn 74, prog_7_method_12_code, 2, (Option.some Jvm.ClassFile.FieldType.boolean), 1, 5, [(2, 5, 0, 0), (0, 0, 7, 7)], [(some (0, 0, 0, 0), []), (some (0, 0, 1, 1), [])], [(7, 3, 0), (7, 5, 0), (7, 2, 0), (7, 4, 0), (5, 4, 0), (35, 1001, 0), (8, 7, 0)], (16, 386, 0, 0))
theorem zq_105 {l : Launch} {w : zk_W} (hW : zh_W w) : zh_K l w zK_105 := zh_meth hW (lk := [(2, 24, 5, 0, 18)]) (KS := [zK_39, zK_104, zK_54]) (km := [43, 71, 64]) (lc := [(0, 60, 43), (0, 120, 71), (0, 53, 64)]) (CL0 := zc_X5_bracketed) (ns := [(19, 1, []), (31, 2, [])]) (AN := []) (fuel := 154) (pl := 859) (by decide +kernel) (by decide +kernel) zd_X5_bracketed (by
  intro K h
  rcases List.mem_cons.mp h with rfl | h
  · exact zq_39 hW
  rcases List.mem_cons.mp h with rfl | h
  · exact zq_104 hW
  rw [List.mem_singleton.mp h]
  exact zq_54 hW)
/-- X5_plain -/
def zK_106 : zk_K := (zt_mn 73, prog_7_method_10_code, 4, (Option.some Jvm.ClassFile.FieldType.boolean), 1, 5, [(2, 5, 0, 0), (0, 0, 7, 7)], [(some (0, 0, 0, 0), []), (some (0, 0, 1, 1), [])], [(5, 4, 0), (7, 3, 0), (7, 5, 0), (7, 2, 0), (7, 4, 0), (35, 1001, 0), (8, 7, 0)], (17, 407, 0, 0))
theorem zq_106 {l : Launch} {w : zk_W} (hW : zh_W w) : zh_K l w zK_106 := zh_meth hW (lk := [(2, 24, 5, 0, 18), (9, 143, 206, 0, 0), (2, 16, 5, 1, 18)]) (KS := [zK_53, zK_39, zK_54, zK_105, zK_69, zK_91, zK_62]) (km := [68, 43, 64, 74, 61, 75, 66]) (lc := [(0, 90, 68), (0, 60, 43), (0, 53, 64), (0, 145, 74), (0, 126, 61), (0, 148, 75), (0, 123, 66)]) (CL0 := zc_X5_plain) (ns := [(27, 1, []), (52, 2, []), (60, 3, []), (70, 4, []), (79, 5, []), (94, 1, []), (99, 4, []), (113, 6, []), (127, 6, [])]) (AN := [(4, ([(0, 0, 0, 0), (1, 0, 0, 0), (2, 0, (-1), (-1)), (2, 5, 0, 0), (0, 0, 7, 7), (0, 0, 0, 400), (0, 0, 0, 1)], [(6, 5, 0)], [], [], [(3, (5, 0)), (2, (6, 0)), (0, (3, 0)), (1, (4, 0))], [(0, 3), (1, 4)], []), [], 0, 0, (400, [((-1), 5)]))]) (fuel := 342) (pl := 854) (by decide +kernel) (by decide +kernel) zd_X5_plain (by
  intro K h
  rcases List.mem_cons.mp h with rfl | h
  · exact zq_53 hW
  rcases List.mem_cons.mp h with rfl | h
  · exact zq_39 hW
  rcases List.mem_cons.mp h with rfl | h
  · exact zq_54 hW
  rcases List.mem_cons.mp h with rfl | h
  · exact zq_105 hW
  rcases List.mem_cons.mp h with rfl | h
  · exact zq_69 hW
  rcases List.mem_cons.mp h with rfl | h
  · exact zq_91 hW
  rw [List.mem_singleton.mp h]
  exact zq_62 hW)
/-- X5_both -/
def zK_107 : zk_K := (zt_mn 72, prog_7_method_9_code, 4, (Option.some Jvm.ClassFile.FieldType.boolean), 1, 5, [(2, 5, 0, 0), (0, 0, 7, 7)], [(some (0, 0, 0, 0), []), (some (0, 0, 1, 1), [])], [(5, 4, 0), (7, 3, 0), (7, 5, 0), (7, 2, 0), (7, 4, 0), (35, 1001, 0), (8, 7, 0)], (18, 430, 0, 0))
theorem zq_107 {l : Launch} {w : zk_W} (hW : zh_W w) : zh_K l w zK_107 := zh_meth hW (lk := [(2, 24, 5, 0, 18), (9, 141, 207, 0, 0), (2, 16, 5, 1, 18)]) (KS := [zK_106, zK_97, zK_39, zK_62, zK_98]) (km := [73, 68, 43, 66, 76]) (lc := [(0, 138, 73), (0, 90, 68), (0, 60, 43), (0, 123, 66), (0, 134, 76)]) (CL0 := zc_X5_both) (ns := [(25, 1, []), (35, 2, []), (44, 3, []), (63, 4, [])]) (AN := [(12, ([(0, 0, 0, 0), (1, 0, 0, 0), (2, 0, (-1), (-1)), (2, 5, 0, 0), (0, 0, 7, 7), (0, 0, 0, 400)], [], [], [], [(2, (5, 0)), (0, (3, 0)), (1, (4, 0))], [(0, 3), (1, 4)], []), [], 0, 0, (400, [((-1), 5)]))]) (fuel := 206) (pl := 850) (by decide +kernel) (by decide +kernel) zd_X5_both (by
  intro K h
  rcases List.mem_cons.mp h with rfl | h
  · exact zq_106 hW
  rcases List.mem_cons.mp h with rfl | h
  · exact zq_97 hW
  rcases List.mem_cons.mp h with rfl | h
  · exact zq_39 hW
  rcases List.mem_cons.mp h with rfl | h
  · exact zq_62 hW
  rw [List.mem_singleton.mp h]
  exact zq_98 hW)
/-- X5_test -/
def zK_108 : zk_K := (zt_mn 71, prog_7_method_8_code, 4, (Option.some Jvm.ClassFile.FieldType.boolean), 1, 5, [(2, 5, 0, 0), (0, 0, 7, 7)], [(some (0, 0, 0, 0), []), (some (0, 0, 1, 1), [])], [(5, 4, 0), (7, 3, 0), (7, 5, 0), (7, 2, 0), (7, 4, 0), (35, 1001, 0), (8, 7, 0)], (19, 453, 0, 0))
theorem zq_108 {l : Launch} {w : zk_W} (hW : zh_W w) : zh_K l w zK_108 := zh_meth hW (lk := [(2, 24, 5, 0, 18), (9, 132, 208, 0, 0), (2, 16, 5, 1, 18)]) (KS := [zK_107, zK_103, zK_39, zK_62, zK_98]) (km := [72, 68, 43, 66, 76]) (lc := [(0, 129, 72), (0, 90, 68), (0, 60, 43), (0, 123, 66), (0, 134, 76)]) (CL0 := zc_X5_test) (ns := [(25, 1, []), (35, 2, []), (44, 3, []), (63, 4, [])]) (AN := [(12, ([(0, 0, 0, 0), (1, 0, 0, 0), (2, 0, (-1), (-1)), (2, 5, 0, 0), (0, 0, 7, 7), (0, 0, 0, 400)], [], [], [], [(2, (5, 0)), (0, (3, 0)), (1, (4, 0))], [(0, 3), (1, 4)], []), [], 0, 0, (400, [((-1), 5)]))]) (fuel := 206) (pl := 846) (by decide +kernel) (by decide +kernel) zd_X5_test (by
  intro K h
  rcases List.mem_cons.mp h with rfl | h
  · exact zq_107 hW
  rcases List.mem_cons.mp h with rfl | h
  · exact zq_103 hW
  rcases List.mem_cons.mp h with rfl | h
  · exact zq_39 hW
  rcases List.mem_cons.mp h with rfl | h
  · exact zq_62 hW
  rw [List.mem_singleton.mp h]
  exact zq_98 hW)
/-- X5_bracketed -/
def zK_109 : zk_K := (zt_mn 74, prog_7_method_12_code, 2, (Option.some Jvm.ClassFile.FieldType.boolean), 1, 5, [(2, 5, 0, 0), (0, 0, 6, 6)], [(some (0, 0, 0, 0), []), (some (0, 0, 1, 1), [])], [(7, 3, 0), (7, 5, 0), (7, 2, 0), (7, 4, 0), (5, 4, 0), (35, 1001, 0), (8, 7, 0)], (20, 476, 0, 0))
theorem zq_109 {l : Launch} {w : zk_W} (hW : zh_W w) : zh_K l w zK_109 := zh_meth hW (lk := [(2, 24, 5, 0, 18)]) (KS := [zK_39, zK_108, zK_54]) (km := [43, 71, 64]) (lc := [(0, 60, 43), (0, 120, 71), (0, 53, 64)]) (CL0 := zc_X5_bracketed) (ns := [(19, 1, []), (31, 2, [])]) (AN := []) (fuel := 154) (pl := 859) (by decide +kernel) (by decide +kernel) zd_X5_bracketed (by
  intro K h
  rcases List.mem_cons.mp h with rfl | h
  · exact zq_39 hW
  rcases List.mem_cons.mp h with rfl | h
  · exact zq_108 hW
  rw [List.mem_singleton.mp h]
  exact zq_54 hW)
/-- X5_plain -/
def zK_110 : zk_K := (zt_mn 73, prog_7_method_10_code, 4, (Option.some Jvm.ClassFile.FieldType.boolean), 1, 5, [(2, 5, 0, 0), (0, 0, 6, 6)], [(some (0, 0, 0, 0), []), (some (0, 0, 1, 1), [])], [(5, 4, 0), (7, 3, 0), (7, 5, 0), (7, 2, 0), (7, 4, 0), (35, 1001, 0), (8, 7, 0)], (21, 497, 0, 0))
theorem zq_110 {l : Launch} {w : zk_W} (hW : zh_W w) : zh_K l w zK_110 := zh_meth hW (lk := [(2, 24, 5, 0, 18), (9, 143, 206, 0, 0), (2, 16, 5, 1, 18)]) (KS := [zK_53, zK_39, zK_54, zK_109, zK_72, zK_91, zK_62]) (km := [68, 43, 64, 74, 61, 75, 66]) (lc := [(0, 90, 68), (0, 60, 43), (0, 53, 64), (0, 145, 74), (0, 126, 61), (0, 148, 75), (0, 123, 66)]) (CL0 := zc_X5_plain) (ns := [(27, 1, []), (52, 2, []), (60, 3, []), (70, 4, []), (79, 5, []), (94, 1, []), (99, 4, []), (113, 6, []), (127, 6, [])]) (AN := [(4, ([(0, 0, 0, 0), (1, 0, 0, 0), (2, 0, (-1), (-1)), (2, 5, 0, 0), (0, 0, 6, 6), (0, 0, 0, 400), (0, 0, 0, 1)], [(6, 5, 0)], [], [], [(3, (5, 0)), (2, (6, 0)), (0, (3, 0)), (1, (4, 0))], [(0, 3), (1, 4)], []), [], 0, 0, (400, [((-1), 5)]))]) (fuel := 342) (pl := 854) (by decide +kernel) (by decide +kernel) zd_X5_plain (by
  intro K h
  rcases List.mem_cons.mp h with rfl | h
  · exact zq_53 hW
  rcases List.mem_cons.mp h with rfl | h
  · exact zq_39 hW
  rcases List.mem_cons.mp h with rfl | h
  · exact zq_54 hW
  rcases List.mem_cons.mp h with rfl | h
  · exact zq_109 hW
  rcases List.mem_cons.mp h with rfl | h
  · exact zq_72 hW
  rcases List.mem_cons.mp h with rfl | h
  · exact zq_91 hW
  rw [List.mem_singleton.mp h]
  exact zq_62 hW)
/-- X5_both -/
def zK_111 : zk_K := (zt_mn 72, prog_7_method_9_code, 4, (Option.some Jvm.ClassFile.FieldType.boolean), 1, 5, [(2, 5, 0, 0), (0, 0, 6, 6)], [(some (0, 0, 0, 0), []), (some (0, 0, 1, 1), [])], [(5, 4, 0), (7, 3, 0), (7, 5, 0), (7, 2, 0), (7, 4, 0), (35, 1001, 0), (8, 7, 0)], (22, 520, 0, 0))
theorem zq_111 {l : Launch} {w : zk_W} (hW : zh_W w) : zh_K l w zK_111 := zh_meth hW (lk := [(2, 24, 5, 0, 18), (9, 141, 207, 0, 0), (2, 16, 5, 1, 18)]) (KS := [zK_110, zK_97, zK_39, zK_62, zK_98]) (km := [73, 68, 43, 66, 76]) (lc := [(0, 138, 73), (0, 90, 68), (0, 60, 43), (0, 123, 66), (0, 134, 76)]) (CL0 := zc_X5_both) (ns := [(25, 1, []), (35, 2, []), (44, 3, []), (63, 4, [])]) (AN := [(12, ([(0, 0, 0, 0), (1, 0, 0, 0), (2, 0, (-1), (-1)), (2, 5, 0, 0), (0, 0, 6, 6), (0, 0, 0, 400)], [], [], [], [(2, (5, 0)), (0, (3, 0)), (1, (4, 0))], [(0, 3), (1, 4)], []), [], 0, 0, (400, [((-1), 5)]))]) (fuel := 206) (pl := 850) (by decide +kernel) (by decide +kernel) zd_X5_both (by
  intro K h
  rcases List.mem_cons.mp h with rfl | h
  · exact zq_110 hW
  rcases List.mem_cons.mp h with rfl | h
  · exact zq_97 hW
  rcases List.mem_cons.mp h with rfl | h
  · exact zq_39 hW
  rcases List.mem_cons.mp h with rfl | h
  · exact zq_62 hW
  rw [List.mem_singleton.mp h]
  exact zq_98 hW)
/-- X5_test -/
def zK_112 : zk_K := (zt_mn 71, prog_7_method_8_code, 4, (Option.some Jvm.ClassFile.FieldType.boolean), 1, 5, [(2, 5, 0, 0), (0, 0, 6, 6)], [(some (0, 0, 0, 0), []), (some (0, 0, 1, 1), [])], [(5, 4, 0), (7, 3, 0), (7, 5, 0), (7, 2, 0), (7, 4, 0), (35, 1001, 0), (8, 7, 0)], (23, 543, 0, 0))
theorem zq_112 {l : Launch} {w : zk_W} (hW : zh_W w) : zh_K l w zK_112 := zh_meth hW (lk := [(2, 24, 5, 0, 18), (9, 132, 208, 0, 0), (2, 16, 5, 1, 18)]) (KS := [zK_111, zK_103, zK_39, zK_62, zK_98]) (km := [72, 68, 43, 66, 76]) (lc := [(0, 129, 72), (0, 90, 68), (0, 60, 43), (0, 123, 66), (0, 134, 76)]) (CL0 := zc_X5_test) (ns := [(25, 1, []), (35, 2, []), (44, 3, []), (63, 4, [])]) (AN := [(12, ([(0, 0, 0, 0), (1, 0, 0, 0), (2, 0, (-1), (-1)), (2, 5, 0, 0), (0, 0, 6, 6), (0, 0, 0, 400)], [], [], [], [(2, (5, 0)), (0, (3, 0)), (1, (4, 0))], [(0, 3), (1, 4)], []), [], 0, 0, (400, [((-1), 5)]))]) (fuel := 206) (pl := 846) (by decide +kernel) (by decide +kernel) zd_X5_test (by
  intro K h
  rcases List.mem_cons.mp h with rfl | h
  · exact zq_111 hW
  rcases List.mem_cons.mp h with rfl | h
  · exact zq_103 hW
  rcases List.mem_cons.mp h with rfl | h
  · exact zq_39 hW
  rcases List.mem_cons.mp h with rfl | h
  · exact zq_62 hW
  rw [List.mem_singleton.mp h]
  exact zq_98 hW)
/-- X5_bracketed -/
def zK_113 : zk_K := (zt_mn 74, prog_7_method_12_code, 2, (Option.some Jvm.ClassFile.FieldType.boolean), 1, 5, [(2, 5, 0, 0), (0, 0, 5, 5)], [(some (0, 0, 0, 0), []), (some (0, 0, 1, 1), [])], [(7, 3, 0), (7, 5, 0), (7, 2, 0), (7, 4, 0), (5, 4, 0), (35, 1001, 0), (8, 7, 0)], (24, 566, 0, 0))
theorem zq_113 {l : Launch} {w : zk_W} (hW : zh_W w) : zh_K l w zK_113 := zh_meth hW (lk := [(2, 24, 5, 0, 18)]) (KS := [zK_39, zK_112, zK_54]) (km := [43, 71, 64]) (lc := [(0, 60, 43), (0, 120, 71), (0, 53, 64)]) (CL0 := zc_X5_bracketed) (ns := [(19, 1, []), (31, 2, [])]) (AN := []) (fuel := 154) (pl := 859) (by decide +kernel) (by decide +kernel) zd_X5_bracketed (by
  intro K h
  rcases List.mem_cons.mp h with rfl | h
  · exact zq_39 hW
  rcases List.mem_cons.mp h with rfl | h
  · exact zq_112 hW
  rw [List.mem_singleton.mp h]
  exact zq_54 hW)
/-- X5_plain -/
def zK_114 : zk_K := (zt_mn 73, prog_7_method_10_code, 4, (Option.some Jvm.ClassFile.FieldType.boolean), 1, 5, [(2, 5, 0, 0), (0, 0, 5, 5)], [(some (0, 0, 0, 0), []), (some (0, 0, 1, 1), [])], [(5, 4, 0), (7, 3, 0), (7, 5, 0), (7, 2, 0), (7, 4, 0), (35, 1001, 0), (8, 7, 0)], (25, 587, 0, 0))
theorem zq_114 {l : Launch} {w : zk_W} (hW : zh_W w) : zh_K l w zK_114 := zh_meth hW (lk := [(2, 24, 5, 0, 18), (9, 143, 206, 0, 0), (2, 16, 5, 1, 18)]) (KS := [zK_53, zK_39, zK_54, zK_113, zK_75, zK_91, zK_62]) (km := [68, 43, 64, 74, 61, 75, 66]) (lc := [(0, 90, 68), (0, 60, 43), (0, 53, 64), (0, 145, 74), (0, 126, 61), (0, 148, 75), (0, 123, 66)]) (CL0 := zc_X5_plain) (ns := [(27, 1, []), (52, 2, []), (60, 3, []), (70, 4, []), (79, 5, []), (94, 1, []), (99, 4, []), (113, 6, []), (127, 6, [])]) (AN := [(4, ([(0, 0, 0, 0), (1, 0, 0, 0), (2, 0, (-1), (-1)), (2, 5, 0, 0), (0, 0, 5, 5), (0, 0, 0, 400), (0, 0, 0, 1)], [(6, 5, 0)], [], [], [(3, (5, 0)), (2, (6, 0)), (0, (3, 0)), (1, (4, 0))], [(0, 3), (1, 4)], []), [], 0, 0, (400, [((-1), 5)]))]) (fuel := 342) (pl := 854) (by decide +kernel) (by decide +kernel) zd_X5_plain (by
  intro K h
  rcases List.mem_cons.mp h with rfl | h
  · exact zq_53 hW
  rcases List.mem_cons.mp h with rfl | h
  · exact zq_39 hW
  rcases List.mem_cons.mp h with rfl | h
  · exact zq_54 hW
  rcases List.mem_cons.mp h with rfl | h
  · exact zq_113 hW
  rcases List.mem_cons.mp h with rfl | h
  · exact zq_75 hW
  rcases List.mem_cons.mp h with rfl | h
  · exact zq_91 hW
  rw [List.mem_singleton.mp h]
  exact zq_62 hW)
/-- X5_both -/
def zK_115 : zk_K := (zt_mn 72, prog_7_method_9_code, 4, (Option.some Jvm.ClassFile.FieldType.boolean), 1, 5, [(2, 5, 0, 0), (0, 0, 5, 5)], [(some (0, 0, 0, 0), []), (some (0, 0, 1, 1), [])], [(5, 4, 0), (7, 3, 0), (7, 5, 0), (7, 2, 0), (7, 4, 0), (35, 1001, 0), (8, 7, 0)], (26, 610, 0, 0))
theorem zq_115 {l : Launch} {w : zk_W} (hW : zh_W w) : zh_K l w zK_115 := zh_meth hW (lk := [(2, 24, 5, 0, 18), (9, 141, 207, 0, 0), (2, 16, 5, 1, 18)]) (KS := [zK_114, zK_97, zK_39, zK_62, zK_98]) (km := [73, 68, 43, 66, 76]) (lc := [(0, 138, 73), (0, 90, 68), (0, 60, 43), (0, 123, 66), (0, 134, 76)]) (CL0 := zc_X5_both) (ns := [(25, 1, []), (35, 2, []), (44, 3, []), (63, 4, [])]) (AN := [(12, ([(0, 0, 0, 0), (1, 0, 0, 0), (2, 0, (-1), (-1)), (2, 5, 0, 0), (0, 0, 5, 5), (0, 0, 0, 400)], [], [], [], [(2, (5, 0)), (0, (3, 0)), (1, (4, 0))], [(0, 3), (1, 4)], []), [], 0, 0, (400, [((-1), 5)]))]) (fuel := 206) (pl := 850) (by decide +kernel) (by decide +kernel) zd_X5_both (by
  intro K h
  rcases List.mem_cons.mp h with rfl | h
  · exact zq_114 hW
  rcases List.mem_cons.mp h with rfl | h
  · exact zq_97 hW
  rcases List.mem_cons.mp h with rfl | h
  · exact zq_39 hW
  rcases List.mem_cons.mp h with rfl | h
  · exact zq_62 hW
  rw [List.mem_singleton.mp h]
  exact zq_98 hW)
/-- X5_test -/
def zK_116 : zk_K := (zt_mn 71, prog_7_method_8_code, 4, (Option.some Jvm.ClassFile.FieldType.boolean), 1, 5, [(2, 5, 0, 0), (0, 0, 5, 5)], [(some (0, 0, 0, 0), []), (some (0, 0, 1, 1), [])], [(5, 4, 0), (7, 3, 0), (7, 5, 0), (7, 2, 0), (7, 4, 0), (35, 1001, 0), (8, 7, 0)], (27, 633, 0, 0))
theorem zq_116 {l : Launch} {w : zk_W} (hW : zh_W w) : zh_K l w zK_116 := zh_meth hW (lk := [(2, 24, 5, 0, 18), (9, 132, 208, 0, 0), (2, 16, 5, 1, 18)]) (KS := [zK_115, zK_103, zK_39, zK_62, zK_98]) (km := [72, 68, 43, 66, 76]) (lc := [(0, 129, 72), (0, 90, 68), (0, 60, 43), (0, 123, 66), (0, 134, 76)]) (CL0 := zc_X5_test) (ns := [(25, 1, []), (35, 2, []), (44, 3, []), (63, 4, [])]) (AN := [(12, ([(0, 0, 0, 0), (1, 0, 0, 0), (2, 0, (-1), (-1)), (2, 5, 0, 0), (0, 0, 5, 5), (0, 0, 0, 400)], [], [], [], [(2, (5, 0)), (0, (3, 0)), (1, (4, 0))], [(0, 3), (1, 4)], []), [], 0, 0, (400, [((-1), 5)]))]) (fuel := 206) (pl := 846) (by decide +kernel) (by decide +kernel) zd_X5_test (by
  intro K h
  rcases List.mem_cons.mp h with rfl | h
  · exact zq_115 hW
  rcases List.mem_cons.mp h with rfl | h
  · exact zq_103 hW
  rcases List.mem_cons.mp h with rfl | h
  · exact zq_39 hW
  rcases List.mem_cons.mp h with rfl | h
  · exact zq_62 hW
  rw [List.mem_singleton.mp h]
  exact zq_98 hW)
/-- X5_bracketed -/
def zK_117 : zk_K := (zt_mn 74, prog_7_method_12_code, 2, (Option.some Jvm.ClassFile.FieldType.boolean), 1, 5, [(2, 5, 0, 0), (0, 0, 4, 4)], [(some (0, 0, 0, 0), []), (some (0, 0, 1, 1), [])], [(7, 3, 0), (7, 5, 0), (7, 2, 0), (7, 4, 0), (5, 4, 0), (35, 1001, 0), (8, 7, 0)], (28, 656, 0, 0))
theorem zq_117 {l : Launch} {w : zk_W} (hW : zh_W w) : zh_K l w zK_117 := zh_meth hW (lk := [(2, 24, 5, 0, 18)]) (KS := [zK_39, zK_116, zK_54]) (km := [43, 71, 64]) (lc := [(0, 60, 43), (0, 120, 71), (0, 53, 64)]) (CL0 := zc_X5_bracketed) (ns := [(19, 1, []), (31, 2, [])]) (AN := []) (fuel := 154) (pl := 859) (by decide +kernel) (by decide +kernel) zd_X5_bracketed (by
  intro K h
  rcases List.mem_cons.mp h with rfl | h
  · exact zq_39 hW
  rcases List.mem_cons.mp h with rfl | h
  · exact zq_116 hW
  rw [List.mem_singleton.mp h]
  exact zq_54 hW)
/-- X5_plain -/
def zK_118 : zk_K := (zt_mn 73, prog_7_method_10_code, 4, (Option.some Jvm.ClassFile.FieldType.boolean), 1, 5, [(2, 5, 0, 0), (0, 0, 4, 4)], [(some (0, 0, 0, 0), []), (some (0, 0, 1, 1), [])], [(5, 4, 0), (7, 3, 0), (7, 5, 0), (7, 2, 0), (7, 4, 0), (35, 1001, 0), (8, 7, 0)], (29, 677, 0, 0))
theorem zq_118 {l : Launch} {w : zk_W} (hW : zh_W w) : zh_K l w zK_118 := zh_meth hW (lk := [(2, 24, 5, 0, 18), (9, 143, 206, 0, 0), (2, 16, 5, 1, 18)]) (KS := [zK_53, zK_39, zK_54, zK_117, zK_78, zK_91, zK_62]) (km := [68, 43, 64, 74, 61, 75, 66]) (lc := [(0, 90, 68), (0, 60, 43), (0, 53, 64), (0, 145, 74), (0, 126, 61), (0, 148, 75), (0, 123, 66)]) (CL0 := zc_X5_plain) (ns := [(27, 1, []), (52, 2, []), (60, 3, []), (70, 4, []), (79, 5, []), (94, 1, []), (99, 4, []), (113, 6, []), (127, 6, [])]) (AN := [(4, ([(0, 0, 0, 0), (1, 0, 0, 0), (2, 0, (-1), (-1)), (2, 5, 0, 0), (0, 0, 4, 4), (0, 0, 0, 400), (0, 0, 0, 1)], [(6, 5, 0)], [], [], [(3, (5, 0)), (2, (6, 0)), (0, (3, 0)), (1, (4, 0))], [(0, 3), (1, 4)], []), [], 0, 0, (400, [((-1), 5)]))]) (fuel := 342) (pl := 854) (by decide +kernel) (by decide +kernel) zd_X5_plain (by
  intro K h
  rcases List.mem_cons.mp h with rfl | h
  · exact zq_53 hW
  rcases List.mem_cons.mp h with rfl | h
  · exact zq_39 hW
  rcases List.mem_cons.mp h with rfl | h
  · exact zq_54 hW
  rcases List.mem_cons.mp h with rfl | h
  · exact zq_117 hW
  rcases List.mem_cons.mp h with rfl | h
  · exact zq_78 hW
  rcases List.mem_cons.mp h with rfl | h
  · exact zq_91 hW
  rw [List.mem_singleton.mp h]
  exact zq_62 hW)
