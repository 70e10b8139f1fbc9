/-! part 62: contracts of the class, by the checker -/
/-- X5_part -/
def zK_70 : zk_K := (zt_mn 63, prog_7_method_16_code, 6, (Option.some Jvm.ClassFile.FieldType.boolean), 1, 5, [(2, 5, 0, 0), (0, 0, 6, 6)], [(some (0, 0, 0, 0), []), (some (0, 0, 1, 1), [])], [(5, 4, 0), (7, 3, 0), (7, 5, 0), (7, 2, 0), (7, 4, 0), (35, 1001, 0), (8, 7, 0)], (16, 388, 0, 0))
theorem zq_70 {l : Launch} {w : zk_W} (hW : zh_W w) : zh_K l w zK_70 := zh_meth hW (lk := [(2, 24, 5, 0, 18), (2, 32, 5, 4, 0), (2, 50, 7, 2, 0), (2, 28, 5, 3, 3), (9, 161, 201, 0, 0), (9, 163, 202, 0, 0), (2, 16, 5, 1, 18)]) (KS := [zK_54, zK_39, zK_69, zK_61, zK_57, zK_60, zK_62]) (km := [64, 43, 61, 65, 46, 46, 66]) (lc := [(0, 53, 64), (0, 60, 43), (0, 126, 61), (0, 102, 65), (0, 65, 46), (0, 123, 66)]) (CL0 := zc_X5_part) (ns := [(24, 1, []), (31, 2, []), (55, 1, []), (111, 3, []), (135, 4, [(5, 0, 1001)]), (150, 1, []), (198, 3, []), (215, 1, []), (239, 6, [])]) (AN := [(233, ([(0, 0, 0, 0), (1, 0, 0, 0), (2, 0, (-1), (-1)), (2, 5, 0, 0), (0, 0, 6, 6), (0, 0, 0, 1000), (0, 0, 1, 2), (0, 0, 0, 1), (0, 0, (-2147483647), 50), (2, 7, 0, 0)], [], [(3, 3, (7, 0)), (3, 4, (8, 0)), (3, 0, (9, 0))], [], [(3, (5, 0)), (2, (6, 0)), (0, (3, 0))], [(0, 3), (1, 4)], []), [], 0, 0, (0, [])),
  (198, ([(0, 0, 0, 0), (1, 0, 0, 0), (2, 0, (-1), (-1)), (2, 5, 0, 0), (0, 0, 6, 6), (0, 0, 0, 1), (0, 0, 5, 9), (2, 7, 0, 0), (0, 0, 1, 1), (0, 0, (-2147483647), 50)], [], [(3, 3, (8, 0)), (3, 4, (9, 0)), (3, 0, (7, 0))], [], [(4, (5, 0)), (2, (0, 2)), (0, (3, 0))], [(0, 3), (1, 4)], []), [(6, 0), (0, 0), (7, 0)], 0, 0, (1, []))]) (fuel := 566) (pl := 806) (by decide +kernel) (by decide +kernel) zd_X5_part (by
  intro K h
  rcases List.mem_cons.mp h with rfl | h
  · exact zq_54 hW
  rcases List.mem_cons.mp h with rfl | h
  · exact zq_39 hW
  rcases List.mem_cons.mp h with rfl | h
  · exact zq_69 hW
  rcases List.mem_cons.mp h with rfl | h
  · exact zq_61 hW
  rcases List.mem_cons.mp h with rfl | h
  · exact zq_57 hW
  rcases List.mem_cons.mp h with rfl | h
  · exact zq_60 hW
  rw [List.mem_singleton.mp h]
  exact zq_62 hW)
/-- X5_term -/
def zK_71 : zk_K := (zt_mn 62, prog_7_method_14_code, 4, (Option.some Jvm.ClassFile.FieldType.boolean), 1, 5, [(2, 5, 0, 0), (0, 0, 6, 6)], [(some (0, 0, 0, 0), []), (some (0, 0, 1, 1), [])], [(5, 4, 0), (7, 3, 0), (7, 5, 0), (7, 2, 0), (7, 4, 0), (35, 1001, 0), (8, 7, 0)], (17, 413, 0, 0))
theorem zq_71 {l : Launch} {w : zk_W} (hW : zh_W w) : zh_K l w zK_71 := zh_meth hW (lk := [(2, 24, 5, 0, 18), (2, 16, 5, 1, 18)]) (KS := [zK_70, zK_64, zK_39, zK_62]) (km := [63, 67, 43, 66]) (lc := [(0, 155, 63), (0, 158, 67), (0, 60, 43), (0, 123, 66)]) (CL0 := zc_X5_term) (ns := [(11, 1, []), (33, 2, []), (52, 3, []), (57, 1, [])]) (AN := [(17, ([(0, 0, 0, 0), (1, 0, 0, 0), (2, 0, (-1), (-1)), (2, 5, 0, 0), (0, 0, 6, 6), (0, 0, 0, 400), (0, 0, (-1), 10)], [], [], [], [(3, (5, 0)), (2, (6, 0)), (0, (3, 0)), (1, (4, 0))], [(0, 3), (1, 4)], []), [], 0, 0, (400, [((-1), 5)]))]) (fuel := 206) (pl := 802) (by decide +kernel) (by decide +kernel) zd_X5_term (by
  intro K h
  rcases List.mem_cons.mp h with rfl | h
  · exact zq_70 hW
  rcases List.mem_cons.mp h with rfl | h
  · exact zq_64 hW
  rcases List.mem_cons.mp h with rfl | h
  · exact zq_39 hW
  rw [List.mem_singleton.mp h]
  exact zq_62 hW)
/-- X5_sum -/
def zK_72 : zk_K := (zt_mn 61, prog_7_method_13_code, 4, (Option.some Jvm.ClassFile.FieldType.boolean), 1, 5, [(2, 5, 0, 0), (0, 0, 6, 6)], [(some (0, 0, 0, 0), []), (some (0, 0, 1, 1), [])], [(5, 4, 0), (7, 3, 0), (7, 5, 0), (7, 2, 0), (7, 4, 0), (35, 1001, 0), (8, 7, 0)], (18, 436, 0, 0))
theorem zq_72 {l : Launch} {w : zk_W} (hW : zh_W w) : zh_K l w zK_72 := zh_meth hW (lk := [(2, 24, 5, 0, 18), (2, 16, 5, 1, 18)]) (KS := [zK_71, zK_54, zK_39, zK_62]) (km := [62, 64, 43, 66]) (lc := [(0, 152, 62), (0, 53, 64), (0, 60, 43), (0, 123, 66)]) (CL0 := zc_X5_sum) (ns := [(25, 1, []), (37, 1, []), (49, 1, []), (67, 2, []), (86, 3, [])]) (AN := [(12, ([(0, 0, 0, 0), (1, 0, 0, 0), (2, 0, (-1), (-1)), (2, 5, 0, 0), (0, 0, 6, 6), (0, 0, 0, 400)], [], [], [], [(2, (5, 0)), (0, (3, 0)), (1, (4, 0))], [(0, 3), (1, 4)], []), [], 0, 0, (400, [((-1), 5)]))]) (fuel := 246) (pl := 798) (by decide +kernel) (by decide +kernel) zd_X5_sum (by
  intro K h
  rcases List.mem_cons.mp h with rfl | h
  · exact zq_71 hW
  rcases List.mem_cons.mp h with rfl | h
  · exact zq_54 hW
  rcases List.mem_cons.mp h with rfl | h
  · exact zq_39 hW
  rw [List.mem_singleton.mp h]
  exact zq_62 hW)
/-- X5_part -/
def zK_73 : zk_K := (zt_mn 63, prog_7_method_16_code, 6, (Option.some Jvm.ClassFile.FieldType.boolean), 1, 5, [(2, 5, 0, 0), (0, 0, 5, 5)], [(some (0, 0, 0, 0), []), (some (0, 0, 1, 1), [])], [(5, 4, 0), (7, 3, 0), (7, 5, 0), (7, 2, 0), (7, 4, 0), (35, 1001, 0), (8, 7, 0)], (19, 459, 0, 0))
theorem zq_73 {l : Launch} {w : zk_W} (hW : zh_W w) : zh_K l w zK_73 := zh_meth hW (lk := [(2, 24, 5, 0, 18), (2, 32, 5, 4, 0), (2, 50, 7, 2, 0), (2, 28, 5, 3, 3), (9, 161, 201, 0, 0), (9, 163, 202, 0, 0), (2, 16, 5, 1, 18)]) (KS := [zK_54, zK_39, zK_72, zK_61, zK_57, zK_60, zK_62]) (km := [64, 43, 61, 65, 46, 46, 66]) (lc := [(0, 53, 64), (0, 60, 43), (0, 126, 61), (0, 102, 65), (0, 65, 46), (0, 123, 66)]) (CL0 := zc_X5_part) (ns := [(24, 1, []), (31, 2, []), (55, 1, []), (111, 3, []), (135, 4, [(5, 0, 1001)]), (150, 1, []), (198, 3, []), (215, 1, []), (239, 6, [])]) (AN := [(233, ([(0, 0, 0, 0), (1, 0, 0, 0), (2, 0, (-1), (-1)), (2, 5, 0, 0), (0, 0, 5, 5), (0, 0, 0, 1000), (0, 0, 1, 2), (0, 0, 0, 1), (0, 0, (-2147483647), 50), (2, 7, 0, 0)], [], [(3, 3, (7, 0)), (3, 4, (8, 0)), (3, 0, (9, 0))], [], [(3, (5, 0)), (2, (6, 0)), (0, (3, 0))], [(0, 3), (1, 4)], []), [], 0, 0, (0, [])),
  (198, ([(0, 0, 0, 0), (1, 0, 0, 0), (2, 0, (-1), (-1)), (2, 5, 0, 0), (0, 0, 5, 5), (0, 0, 0, 1), (0, 0, 5, 9), (2, 7, 0, 0), (0, 0, 1, 1), (0, 0, (-2147483647), 50)], [], [(3, 3, (8, 0)), (3, 4, (9, 0)), (3, 0, (7, 0))], [], [(4, (5, 0)), (2, (0, 2)), (0, (3, 0))], [(0, 3), (1, 4)], []), [(6, 0), (0, 0), (7, 0)], 0, 0, (1, []))]) (fuel := 566) (pl := 806) (by decide +kernel) (by decide +kernel) zd_X5_part (by
  intro K h
  rcases List.mem_cons.mp h with rfl | h
  · exact zq_54 hW
  rcases List.mem_cons.mp h with rfl | h
  · exact zq_39 hW
  rcases List.mem_cons.mp h with rfl | h
  · exact zq_72 hW
  rcases List.mem_cons.mp h with rfl | h
  · exact zq_61 hW
  rcases List.mem_cons.mp h with rfl | h
  · exact zq_57 hW
  rcases List.mem_cons.mp h with rfl | h
  · exact zq_60 hW
  rw [List.mem_singleton.mp h]
  exact zq_62 hW)
/-- X5_term -/
def zK_74 : zk_K := (zt_mn 62, prog_7_method_14_code, 4, (Option.some Jvm.ClassFile.FieldType.boolean), 1, 5, [(2, 5, 0, 0), (0, 0, 5, 5)], [(some (0, 0, 0, 0), []), (some (0, 0, 1, 1), [])], [(5, 4, 0), (7, 3, 0), (7, 5, 0), (7, 2, 0), (7, 4, 0), (35, 1001, 0), (8, 7, 0)], (20, 484, 0, 0))
theorem zq_74 {l : Launch} {w : zk_W} (hW : zh_W w) : zh_K l w zK_74 := zh_meth hW (lk := [(2, 24, 5, 0, 18), (2, 16, 5, 1, 18)]) (KS := [zK_73, zK_64, zK_39, zK_62]) (km := [63, 67, 43, 66]) (lc := [(0, 155, 63), (0, 158, 67), (0, 60, 43), (0, 123, 66)]) (CL0 := zc_X5_term) (ns := [(11, 1, []), (33, 2, []), (52, 3, []), (57, 1, [])]) (AN := [(17, ([(0, 0, 0, 0), (1, 0, 0, 0), (2, 0, (-1), (-1)), (2, 5, 0, 0), (0, 0, 5, 5), (0, 0, 0, 400), (0, 0, (-1), 10)], [], [], [], [(3, (5, 0)), (2, (6, 0)), (0, (3, 0)), (1, (4, 0))], [(0, 3), (1, 4)], []), [], 0, 0, (400, [((-1), 5)]))]) (fuel := 206) (pl := 802) (by decide +kernel) (by decide +kernel) zd_X5_term (by
  intro K h
  rcases List.mem_cons.mp h with rfl | h
  · exact zq_73 hW
  rcases List.mem_cons.mp h with rfl | h
  · exact zq_64 hW
  rcases List.mem_cons.mp h with rfl | h
  · exact zq_39 hW
  rw [List.mem_singleton.mp h]
  exact zq_62 hW)
/-- X5_sum -/
def zK_75 : zk_K := (zt_mn 61, prog_7_method_13_code, 4, (Option.some Jvm.ClassFile.FieldType.boolean), 1, 5, [(2, 5, 0, 0), (0, 0, 5, 5)], [(some (0, 0, 0, 0), []), (some (0, 0, 1, 1), [])], [(5, 4, 0), (7, 3, 0), (7, 5, 0), (7, 2, 0), (7, 4, 0), (35, 1001, 0), (8, 7, 0)], (21, 507, 0, 0))
theorem zq_75 {l : Launch} {w : zk_W} (hW : zh_W w) : zh_K l w zK_75 := zh_meth hW (lk := [(2, 24, 5, 0, 18), (2, 16, 5, 1, 18)]) (KS := [zK_74, zK_54, zK_39, zK_62]) (km := [62, 64, 43, 66]) (lc := [(0, 152, 62), (0, 53, 64), (0, 60, 43), (0, 123, 66)]) (CL0 := zc_X5_sum) (ns := [(25, 1, []), (37, 1, []), (49, 1, []), (67, 2, []), (86, 3, [])]) (AN := [(12, ([(0, 0, 0, 0), (1, 0, 0, 0), (2, 0, (-1), (-1)), (2, 5, 0, 0), (0, 0, 5, 5), (0, 0, 0, 400)], [], [], [], [(2, (5, 0)), (0, (3, 0)), (1, (4, 0))], [(0, 3), (1, 4)], []), [], 0, 0, (400, [((-1), 5)]))]) (fuel := 246) (pl := 798) (by decide +kernel) (by decide +kernel) zd_X5_sum (by
  intro K h
  rcases List.mem_cons.mp h with rfl | h
  · exact zq_74 hW
  rcases List.mem_cons.mp h with rfl | h
  · exact zq_54 hW
  rcases List.mem_cons.mp h with rfl | h
  · exact zq_39 hW
  rw [List.mem_singleton.mp h]
  exact zq_62 hW)
/-- X5_part -/
def zK_76 : zk_K := (zt_mn 63, prog_7_method_16_code, 6, (Option.some Jvm.ClassFile.FieldType.boolean), 1, 5, [(2, 5, 0, 0), (0, 0, 4, 4)], [(some (0, 0, 0, 0), []), (some (0, 0, 1, 1), [])], [(5, 4, 0), (7, 3, 0), (7, 5, 0), (7, 2, 0), (7, 4, 0), (35, 1001, 0), (8, 7, 0)], (22, 530, 0, 0))
theorem zq_76 {l : Launch} {w : zk_W} (hW : zh_W w) : zh_K l w zK_76 := zh_meth hW (lk := [(2, 24, 5, 0, 18), (2, 32, 5, 4, 0), (2, 50, 7, 2, 0), (2, 28, 5, 3, 3), (9, 161, 201, 0, 0), (9, 163, 202, 0, 0), (2, 16, 5, 1, 18)]) (KS := [zK_54, zK_39, zK_75, zK_61, zK_57, zK_60, zK_62]) (km := [64, 43, 61, 65, 46, 46, 66]) (lc := [(0, 53, 64), (0, 60, 43), (0, 126, 61), (0, 102, 65), (0, 65, 46), (0, 123, 66)]) (CL0 := zc_X5_part) (ns := [(24, 1, []), (31, 2, []), (55, 1, []), (111, 3, []), (135, 4, [(5, 0, 1001)]), (150, 1, []), (198, 3, []), (215, 1, []), (239, 6, [])]) (AN := [(233, ([(0, 0, 0, 0), (1, 0, 0, 0), (2, 0, (-1), (-1)), (2, 5, 0, 0), (0, 0, 4, 4), (0, 0, 0, 1000), (0, 0, 1, 2), (0, 0, 0, 1), (0, 0, (-2147483647), 50), (2, 7, 0, 0)], [], [(3, 3, (7, 0)), (3, 4, (8, 0)), (3, 0, (9, 0))], [], [(3, (5, 0)), (2, (6, 0)), (0, (3, 0))], [(0, 3), (1, 4)], []), [], 0, 0, (0, [])),
  (198, ([(0, 0, 0, 0), (1, 0, 0, 0), (2, 0, (-1), (-1)), (2, 5, 0, 0), (0, 0, 4, 4), (0, 0, 0, 1), (0, 0, 5, 9), (2, 7, 0, 0), (0, 0, 1, 1), (0, 0, (-2147483647), 50)], [], [(3, 3, (8, 0)), (3, 4, (9, 0)), (3, 0, (7, 0))], [], [(4, (5, 0)), (2, (0, 2)), (0, (3, 0))], [(0, 3), (1, 4)], []), [(6, 0), (0, 0), (7, 0)], 0, 0, (1, []))]) (fuel := 566) (pl := 806) (by decide +kernel) (by decide +kernel) zd_X5_part (by
  intro K h
  rcases List.mem_cons.mp h with rfl | h
  · exact zq_54 hW
  rcases List.mem_cons.mp h with rfl | h
  · exact zq_39 hW
  rcases List.mem_cons.mp h with rfl | h
  · exact zq_75 hW
  rcases List.mem_cons.mp h with rfl | h
  · exact zq_61 hW
  rcases List.mem_cons.mp h with rfl | h
  · exact zq_57 hW
  rcases List.mem_cons.mp h with rfl | h
  · exact zq_60 hW
  rw [List.mem_singleton.mp h]
  exact zq_62 hW)
/-- X5_term -/
def zK_77 : zk_K := (zt_mn 62, prog_7_method_14_code, 4, (Option.some Jvm.ClassFile.FieldType.boolean), 1, 5, [(2, 5, 0, 0), (0, 0, 4, 4)], [(some (0, 0, 0, 0), []), (some (0, 0, 1, 1), [])], [(5, 4, 0), (7, 3, 0), (7, 5, 0), (7, 2, 0), (7, 4, 0), (35, 1001, 0), (8, 7, 0)], (23, 555, 0, 0))
theorem zq_77 {l : Launch} {w : zk_W} (hW : zh_W w) : zh_K l w zK_77 := zh_meth hW (lk := [(2, 24, 5, 0, 18), (2, 16, 5, 1, 18)]) (KS := [zK_76, zK_64, zK_39, zK_62]) (km := [63, 67, 43, 66]) (lc := [(0, 155, 63), (0, 158, 67), (0, 60, 43), (0, 123, 66)]) (CL0 := zc_X5_term) (ns := [(11, 1, []), (33, 2, []), (52, 3, []), (57, 1, [])]) (AN := [(17, ([(0, 0, 0, 0), (1, 0, 0, 0), (2, 0, (-1), (-1)), (2, 5, 0, 0), (0, 0, 4, 4), (0, 0, 0, 400), (0, 0, (-1), 10)], [], [], [], [(3, (5, 0)), (2, (6, 0)), (0, (3, 0)), (1, (4, 0))], [(0, 3), (1, 4)], []), [], 0, 0, (400, [((-1), 5)]))]) (fuel := 206) (pl := 802) (by decide +kernel) (by decide +kernel) zd_X5_term (by
  intro K h
  rcases List.mem_cons.mp h with rfl | h
  · exact zq_76 hW
  rcases List.mem_cons.mp h with rfl | h
  · exact zq_64 hW
  rcases List.mem_cons.mp h with rfl | h
  · exact zq_39 hW
  rw [List.mem_singleton.mp h]
  exact zq_62 hW)
/-- X5_sum -/
def zK_78 : zk_K := (zt_mn 61, prog_7_method_13_code, 4, (Option.some Jvm.ClassFile.FieldType.boolean), 1, 5, [(2, 5, 0, 0), (0, 0, 4, 4)], [(some (0, 0, 0, 0), []), (some (0, 0, 1, 1), [])], [(5, 4, 0), (7, 3, 0), (7, 5, 0), (7, 2, 0), (7, 4, 0), (35, 1001, 0), (8, 7, 0)], (24, 578, 0, 0))
theorem zq_78 {l : Launch} {w : zk_W} (hW : zh_W w) : zh_K l w zK_78 := zh_meth hW (lk := [(2, 24, 5, 0, 18), (2, 16, 5, 1, 18)]) (KS := [zK_77, zK_54, zK_39, zK_62]) (km := [62, 64, 43, 66]) (lc := [(0, 152, 62), (0, 53, 64), (0, 60, 43), (0, 123, 66)]) (CL0 := zc_X5_sum) (ns := [(25, 1, []), (37, 1, []), (49, 1, []), (67, 2, []), (86, 3, [])]) (AN := [(12, ([(0, 0, 0, 0), (1, 0, 0, 0), (2, 0, (-1), (-1)), (2, 5, 0, 0), (0, 0, 4, 4), (0, 0, 0, 400)], [], [], [], [(2, (5, 0)), (0, (3, 0)), (1, (4, 0))], [(0, 3), (1, 4)], []), [], 0, 0, (400, [((-1), 5)]))]) (fuel := 246) (pl := 798) (by decide +kernel) (by decide +kernel) zd_X5_sum (by
  intro K h
  rcases List.mem_cons.mp h with rfl | h
  · exact zq_77 hW
  rcases List.mem_cons.mp h with rfl | h
  · exact zq_54 hW
  rcases List.mem_cons.mp h with rfl | h
  · exact zq_39 hW
  rw [List.mem_singleton.mp h]
  exact zq_62 hW)
/-- X5_part -/
def zK_79 : zk_K := (zt_mn 63, prog_7_method_16_code, 6, (Option.some Jvm.ClassFile.FieldType.boolean), 1, 5, [(2, 5, 0, 0), (0, 0, 3, 3)], [(some (0, 0, 0, 0), []), (some (0, 0, 1, 1), [])], [(5, 4, 0), (7, 3, 0), (7, 5, 0), (7, 2, 0), (7, 4, 0), (35, 1001, 0), (8, 7, 0)], (25, 601, 0, 0))
theorem zq_79 {l : Launch} {w : zk_W} (hW : zh_W w) : zh_K l w zK_79 := zh_meth hW (lk := [(2, 24, 5, 0, 18), (2, 32, 5, 4, 0), (2, 50, 7, 2, 0), (2, 28, 5, 3, 3), (9, 161, 201, 0, 0), (9, 163, 202, 0, 0), (2, 16, 5, 1, 18)]) (KS := [zK_54, zK_39, zK_78, zK_61, zK_57, zK_60, zK_62]) (km := [64, 43, 61, 65, 46, 46, 66]) (lc := [(0, 53, 64), (0, 60, 43), (0, 126, 61), (0, 102, 65), (0, 65, 46), (0, 123, 66)]) (CL0 := zc_X5_part) (ns := [(24, 1, []), (31, 2, []), (55, 1, []), (111, 3, []), (135, 4, [(5, 0, 1001)]), (150, 1, []), (198, 3, []), (215, 1, []), (239, 6, [])]) (AN := [(233, ([(0, 0, 0, 0), (1, 0, 0, 0), (2, 0, (-1), (-1)), (2, 5, 0, 0), (0, 0, 3, 3), (0, 0, 0, 1000), (0, 0, 1, 2), (0, 0, 0, 1), (0, 0, (-2147483647), 50), (2, 7, 0, 0)], [], [(3, 3, (7, 0)), (3, 4, (8, 0)), (3, 0, (9, 0))], [], [(3, (5, 0)), (2, (6, 0)), (0, (3, 0))], [(0, 3), (1, 4)], []), [], 0, 0, (0, [])),
  (198, ([(0, 0, 0, 0), (1, 0, 0, 0), (2, 0, (-1), (-1)), (2, 5, 0, 0), (0, 0, 3, 3), (0, 0, 0, 1), (0, 0, 5, 9), (2, 7, 0, 0), (0, 0, 1, 1), (0, 0, (-2147483647), 50)], [], [(3, 3, (8, 0)), (3, 4, (9, 0)), (3, 0, (7, 0))], [], [(4, (5, 0)), (2, (0, 2)), (0, (3, 0))], [(0, 3), (1, 4)], []), [(6, 0), (0, 0), (7, 0)], 0, 0, (1, []))]) (fuel := 566) (pl := 806) (by decide +kernel) (by decide +kernel) zd_X5_part (by
  intro K h
  rcases List.mem_cons.mp h with rfl | h
  · exact zq_54 hW
  rcases List.mem_cons.mp h with rfl | h
  · exact zq_39 hW
  rcases List.mem_cons.mp h with rfl | h
  · exact zq_78 hW
  rcases List.mem_cons.mp h with rfl | h
  · exact zq_61 hW
  rcases List.mem_cons.mp h with rfl | h
  · exact zq_57 hW
  rcases List.mem_cons.mp h with rfl | h
  · exact zq_60 hW
  rw [List.mem_singleton.mp h]
  exact zq_62 hW)
/-- X5_term -/
def zK_80 : zk_K := (zt_mn 62, prog_7_method_14_code, 4, (Option.some Jvm.ClassFile.FieldType.boolean), 1, 5, [(2, 5, 0, 0), (0, 0, 3, 3)], [(some (0, 0, 0, 0), []), (some (0, 0, 1, 1), [])], [(5, 4, 0), (7, 3, 0), (7, 5, 0), (7, 2, 0), (7, 4, 0), (35, 1001, 0), (8, 7, 0)], (26, 626, 0, 0))
theorem zq_80 {l : Launch} {w : zk_W} (hW : zh_W w) : zh_K l w zK_80 := zh_meth hW (lk := [(2, 24, 5, 0, 18), (2, 16, 5, 1, 18)]) (KS := [zK_79, zK_64, zK_39, zK_62]) (km := [63, 67, 43, 66]) (lc := [(0, 155, 63), (0, 158, 67), (0, 60, 43), (0, 123, 66)]) (CL0 := zc_X5_term) (ns := [(11, 1, []), (33, 2, []), (52, 3, []), (57, 1, [])]) (AN := [(17, ([(0, 0, 0, 0), (1, 0, 0, 0), (2, 0, (-1), (-1)), (2, 5, 0, 0), (0, 0, 3, 3), (0, 0, 0, 400), (0, 0, (-1), 10)], [], [], [], [(3, (5, 0)), (2, (6, 0)), (0, (3, 0)), (1, (4, 0))], [(0, 3), (1, 4)], []), [], 0, 0, (400, [((-1), 5)]))]) (fuel := 206) (pl := 802) (by decide +kernel) (by decide +kernel) zd_X5_term (by
  intro K h
  rcases List.mem_cons.mp h with rfl | h
  · exact zq_79 hW
  rcases List.mem_cons.mp h with rfl | h
  · exact zq_64 hW
  rcases List.mem_cons.mp h with rfl | h
  · exact zq_39 hW
  rw [List.mem_singleton.mp h]
  exact zq_62 hW)
/-- X5_sum -/
def zK_81 : zk_K := (zt_mn 61, prog_7_method_13_code, 4, (Option.some Jvm.ClassFile.FieldType.boolean), 1, 5, [(2, 5, 0, 0), (0, 0, 3, 3)], [(some (0, 0, 0, 0), []), (some (0, 0, 1, 1), [])], [(5, 4, 0), (7, 3, 0), (7, 5, 0), (7, 2, 0), (7, 4, 0), (35, 1001, 0), (8, 7, 0)], (27, 649, 0, 0))
theorem zq_81 {l : Launch} {w : zk_W} (hW : zh_W w) : zh_K l w zK_81 := zh_meth hW (lk := [(2, 24, 5, 0, 18), (2, 16, 5, 1, 18)]) (KS := [zK_80, zK_54, zK_39, zK_62]) (km := [62, 64, 43, 66]) (lc := [(0, 152, 62), (0, 53, 64), (0, 60, 43), (0, 123, 66)]) (CL0 := zc_X5_sum) (ns := [(25, 1, []), (37, 1, []), (49, 1, []), (67, 2, []), (86, 3, [])]) (AN := [(12, ([(0, 0, 0, 0), (1, 0, 0, 0), (2, 0, (-1), (-1)), (2, 5, 0, 0), (0, 0, 3, 3), (0, 0, 0, 400)], [], [], [], [(2, (5, 0)), (0, (3, 0)), (1, (4, 0))], [(0, 3), (1, 4)], []), [], 0, 0, (400, [((-1), 5)]))]) (fuel := 246) (pl := 798) (by decide +kernel) (by decide +kernel) zd_X5_sum (by
  intro K h
  rcases List.mem_cons.mp h with rfl | h
  · exact zq_80 hW
  rcases List.mem_cons.mp h with rfl | h
  · exact zq_54 hW
  rcases List.mem_cons.mp h with rfl | h
  · exact zq_39 hW
  rw [List.mem_singleton.mp h]
  exact zq_62 hW)
/-- X5_part -/
def zK_82 : zk_K := (zt_mn 63, prog_7_method_16_code, 6, (Option.some Jvm.ClassFile.FieldType.boolean), 1, 5, [(2, 5, 0, 0), (0, 0, 2, 2)], [(some (0, 0, 0, 0), []), (some (0, 0, 1, 1), [])], [(5, 4, 0), (7, 3, 0), (7, 5, 0), (7, 2, 0), (7, 4, 0), (35, 1001, 0), (8, 7, 0)], (28, 672, 0, 0))
theorem zq_82 {l : Launch} {w : zk_W} (hW : zh_W w) : zh_K l w zK_82 := zh_meth hW (lk := [(2, 24, 5, 0, 18), (2, 32, 5, 4, 0), (2, 50, 7, 2, 0), (2, 28, 5, 3, 3), (9, 161, 201, 0, 0), (9, 163, 202, 0, 0), (2, 16, 5, 1, 18)]) (KS := [zK_54, zK_39, zK_81, zK_61, zK_57, zK_60, zK_62]) (km := [64, 43, 61, 65, 46, 46, 66]) (lc := [(0, 53, 64), (0, 60, 43), (0, 126, 61), (0, 102, 65), (0, 65, 46), (0, 123, 66)]) (CL0 := zc_X5_part) (ns := [(24, 1, []), (31, 2, []), (55, 1, []), (111, 3, []), (135, 4, [(5, 0, 1001)]), (150, 1, []), (198, 3, []), (215, 1, []), (239, 6, [])]) (AN := [(233, ([(0, 0, 0, 0), (1, 0, 0, 0), (2, 0, (-1), (-1)), (2, 5, 0, 0), (0, 0, 2, 2), (0, 0, 0, 1000), (0, 0, 1, 2), (0, 0, 0, 1), (0, 0, (-2147483647), 50), (2, 7, 0, 0)], [], [(3, 3, (7, 0)), (3, 4, (8, 0)), (3, 0, (9, 0))], [], [(3, (5, 0)), (2, (6, 0)), (0, (3, 0))], [(0, 3), (1, 4)], []), [], 0, 0, (0, [])),
  (198, ([(0, 0, 0, 0), (1, 0, 0, 0), (2, 0, (-1), (-1)), (2, 5, 0, 0), (0, 0, 2, 2), (0, 0, 0, 1), (0, 0, 5, 9), (2, 7, 0, 0), (0, 0, 1, 1), (0, 0, (-2147483647), 50)], [], [(3, 3, (8, 0)), (3, 4, (9, 0)), (3, 0, (7, 0))], [], [(4, (5, 0)), (2, (0, 2)), (0, (3, 0))], [(0, 3), (1, 4)], []), [(6, 0), (0, 0), (7, 0)], 0, 0, (1, []))]) (fuel := 566) (pl := 806) (by decide +kernel) (by decide +kernel) zd_X5_part (by
  intro K h
  rcases List.mem_cons.mp h with rfl | h
  · exact zq_54 hW
  rcases List.mem_cons.mp h with rfl | h
  · exact zq_39 hW
  rcases List.mem_cons.mp h with rfl | h
  · exact zq_81 hW
  rcases List.mem_cons.mp h with rfl | h
  · exact zq_61 hW
  rcases List.mem_cons.mp h with rfl | h
  · exact zq_57 hW
  rcases List.mem_cons.mp h with rfl | h
  · exact zq_60 hW
  rw [List.mem_singleton.mp h]
  exact zq_62 hW)
/-- X5_term -/
def zK_83 : zk_K := (zt_mn 62, prog_7_method_14_code, 4, (Option.some Jvm.ClassFile.FieldType.boolean), 1, 5, [(2, 5, 0, 0), (0, 0, 2, 2)], [(some (0, 0, 0, 0), []), (some (0, 0, 1, 1), [])], [(5, 4, 0), (7, 3, 0), (7, 5, 0), (7, 2, 0), (7, 4, 0), (35, 1001, 0), (8, 7, 0)], (29, 697, 0, 0))
theorem zq_83 {l : Launch} {w : zk_W} (hW : zh_W w) : zh_K l w zK_83 := zh_meth hW (lk := [(2, 24, 5, 0, 18), (2, 16, 5, 1, 18)]) (KS := [zK_82, zK_64, zK_39, zK_62]) (km := [63, 67, 43, 66]) (lc := [(0, 155, 63), (0, 158, 67), (0, 60, 43), (0, 123, 66)]) (CL0 := zc_X5_term) (ns := [(11, 1, []), (33, 2, []), (52, 3, []), (57, 1, [])]) (AN := [(17, ([(0, 0, 0, 0), (1, 0, 0, 0), (2, 0, (-1), (-1)), (2, 5, 0, 0), (0, 0, 2, 2), (0, 0, 0, 400), (0, 0, (-1), 10)], [], [], [], [(3, (5, 0)), (2, (6, 0)), (0, (3, 0)), (1, (4, 0))], [(0, 3), (1, 4)], []), [], 0, 0, (400, [((-1), 5)]))]) (fuel := 206) (pl := 802) (by decide +kernel) (by decide +kernel) zd_X5_term (by
  intro K h
  rcases List.mem_cons.mp h with rfl | h
  · exact zq_82 hW
  rcases List.mem_cons.mp h with rfl | h
  · exact zq_64 hW
  rcases List.mem_cons.mp h with rfl | h
  · exact zq_39 hW
  rw [List.mem_singleton.mp h]
  exact zq_62 hW)
/-- X5_sum -/
def zK_84 : zk_K := (zt_mn 61, prog_7_method_13_code, 4, (Option.some Jvm.ClassFile.FieldType.boolean), 1, 5, [(2, 5, 0, 0), (0, 0, 2, 2)], [(some (0, 0, 0, 0), []), (some (0, 0, 1, 1), [])], [(5, 4, 0), (7, 3, 0), (7, 5, 0), (7, 2, 0), (7, 4, 0), (35, 1001, 0), (8, 7, 0)], (30, 720, 0, 0))
theorem zq_84 {l : Launch} {w : zk_W} (hW : zh_W w) : zh_K l w zK_84 := zh_meth hW (lk := [(2, 24, 5, 0, 18), (2, 16, 5, 1, 18)]) (KS := [zK_83, zK_54, zK_39, zK_62]) (km := [62, 64, 43, 66]) (lc := [(0, 152, 62), (0, 53, 64), (0, 60, 43), (0, 123, 66)]) (CL0 := zc_X5_sum) (ns := [(25, 1, []), (37, 1, []), (49, 1, []), (67, 2, []), (86, 3, [])]) (AN := [(12, ([(0, 0, 0, 0), (1, 0, 0, 0), (2, 0, (-1), (-1)), (2, 5, 0, 0), (0, 0, 2, 2), (0, 0, 0, 400)], [], [], [], [(2, (5, 0)), (0, (3, 0)), (1, (4, 0))], [(0, 3), (1, 4)], []), [], 0, 0, (400, [((-1), 5)]))]) (fuel := 246) (pl := 798) (by decide +kernel) (by decide +kernel) zd_X5_sum (by
  intro K h
  rcases List.mem_cons.mp h with rfl | h
  · exact zq_83 hW
  rcases List.mem_cons.mp h with rfl | h
  · exact zq_54 hW
  rcases List.mem_cons.mp h with rfl | h
  · exact zq_39 hW
  rw [List.mem_singleton.mp h]
  exact zq_62 hW)
/-- X5_part -/
def zK_85 : zk_K := (zt_mn 63, prog_7_method_16_code, 6, (Option.some Jvm.ClassFile.FieldType.boolean), 1, 5, [(2, 5, 0, 0), (0, 0, 1, 1)], [(some (0, 0, 0, 0), []), (some (0, 0, 1, 1), [])], [(5, 4, 0), (7, 3, 0), (7, 5, 0), (7, 2, 0), (7, 4, 0), (35, 1001, 0), (8, 7, 0)], (31, 743, 0, 0))
theorem zq_85 {l : Launch} {w : zk_W} (hW : zh_W w) : zh_K l w zK_85 := zh_meth hW (lk := [(2, 24, 5, 0, 18), (2, 32, 5, 4, 0), (2, 50, 7, 2, 0), (2, 28, 5, 3, 3), (9, 161, 201, 0, 0), (9, 163, 202, 0, 0), (2, 16, 5, 1, 18)]) (KS := [zK_54, zK_39, zK_84, zK_61, zK_57, zK_60, zK_62]) (km := [64, 43, 61, 65, 46, 46, 66]) (lc := [(0, 53, 64), (0, 60, 43), (0, 126, 61), (0, 102, 65), (0, 65, 46), (0, 123, 66)]) (CL0 := zc_X5_part) (ns := [(24, 1, []), (31, 2, []), (55, 1, []), (111, 3, []), (135, 4, [(5, 0, 1001)]), (150, 1, []), (198, 3, []), (215, 1, []), (239, 6, [])]) (AN := [(233, ([(0, 0, 0, 0), (1, 0, 0, 0), (2, 0, (-1), (-1)), (2, 5, 0, 0), (0, 0, 1, 1), (0, 0, 0, 1000), (0, 0, 1, 2), (0, 0, 0, 1), (0, 0, (-2147483647), 50), (2, 7, 0, 0)], [], [(3, 3, (7, 0)), (3, 4, (8, 0)), (3, 0, (9, 0))], [], [(3, (5, 0)), (2, (6, 0)), (0, (3, 0))], [(0, 3), (1, 4)], []), [], 0, 0, (0, [])),
  (198, ([(0, 0, 0, 0), (1, 0, 0, 0), (2, 0, (-1), (-1)), (2, 5, 0, 0), (0, 0, 1, 1), (0, 0, 0, 1), (0, 0, 5, 9), (2, 7, 0, 0), (0, 0, 1, 1), (0, 0, (-2147483647), 50)], [], [(3, 3, (8, 0)), (3, 4, (9, 0)), (3, 0, (7, 0))], [], [(4, (5, 0)), (2, (0, 2)), (0, (3, 0))], [(0, 3), (1, 4)], []), [(6, 0), (0, 0), (7, 0)], 0, 0, (1, []))]) (fuel := 566) (pl := 806) (by decide +kernel) (by decide +kernel) zd_X5_part (by
  intro K h
  rcases List.mem_cons.mp h with rfl | h
  · exact zq_54 hW
  rcases List.mem_cons.mp h with rfl | h
  · exact zq_39 hW
  rcases List.mem_cons.mp h with rfl | h
  · exact zq_84 hW
  rcases List.mem_cons.mp h with rfl | h
  · exact zq_61 hW
  rcases List.mem_cons.mp h with rfl | h
  · exact zq_57 hW
  rcases List.mem_cons.mp h with rfl | h
  · exact zq_60 hW
  rw [List.mem_singleton.mp h]
  exact zq_62 hW)
/-- X5_term -/
def zK_86 : zk_K := (zt_mn 62, prog_7_method_14_code, 4, (Option.some Jvm.ClassFile.FieldType.boolean), 1, 5, [(2, 5, 0, 0), (0, 0, 1, 1)], [(some (0, 0, 0, 0), []), (some (0, 0, 1, 1), [])], [(5, 4, 0), (7, 3, 0), (7, 5, 0), (7, 2, 0), (7, 4, 0), (35, 1001, 0), (8, 7, 0)], (32, 768, 0, 0))
theorem zq_86 {l : Launch} {w : zk_W} (hW : zh_W w) : zh_K l w zK_86 := zh_meth hW (lk := [(2, 24, 5, 0, 18), (2, 16, 5, 1, 18)]) (KS := [zK_85, zK_64, zK_39, zK_62]) (km := [63, 67, 43, 66]) (lc := [(0, 155, 63), (0, 158, 67), (0, 60, 43), (0, 123, 66)]) (CL0 := zc_X5_term) (ns := [(11, 1, []), (33, 2, []), (52, 3, []), (57, 1, [])]) (AN := [(17, ([(0, 0, 0, 0), (1, 0, 0, 0), (2, 0, (-1), (-1)), (2, 5, 0, 0), (0, 0, 1, 1), (0, 0, 0, 400), (0, 0, (-1), 10)], [], [], [], [(3, (5, 0)), (2, (6, 0)), (0, (3, 0)), (1, (4, 0))], [(0, 3), (1, 4)], []), [], 0, 0, (400, [((-1), 5)]))]) (fuel := 206) (pl := 802) (by decide +kernel) (by decide +kernel) zd_X5_term (by
  intro K h
  rcases List.mem_cons.mp h with rfl | h
  · exact zq_85 hW
  rcases List.mem_cons.mp h with rfl | h
  · exact zq_64 hW
  rcases List.mem_cons.mp h with rfl | h
  · exact zq_39 hW
  rw [List.mem_singleton.mp h]
  exact zq_62 hW)
/-- X5_sum -/
def zK_87 : zk_K := (zt_mn 61, prog_7_method_13_code, 4, (Option.some Jvm.ClassFile.FieldType.boolean), 1, 5, [(2, 5, 0, 0), (0, 0, 1, 1)], [(some (0, 0, 0, 0), []), (some (0, 0, 1, 1), [])], [(5, 4, 0), (7, 3, 0), (7, 5, 0), (7, 2, 0), (7, 4, 0), (35, 1001, 0), (8, 7, 0)], (33, 791, 0, 0))
theorem zq_87 {l : Launch} {w : zk_W} (hW : zh_W w) : zh_K l w zK_87 := zh_meth hW (lk := [(2, 24, 5, 0, 18), (2, 16, 5, 1, 18)]) (KS := [zK_86, zK_54, zK_39, zK_62]) (km := [62, 64, 43, 66]) (lc := [(0, 152, 62), (0, 53, 64), (0, 60, 43), (0, 123, 66)]) (CL0 := zc_X5_sum) (ns := [(25, 1, []), (37, 1, []), (49, 1, []), (67, 2, []), (86, 3, [])]) (AN := [(12, ([(0, 0, 0, 0), (1, 0, 0, 0), (2, 0, (-1), (-1)), (2, 5, 0, 0), (0, 0, 1, 1), (0, 0, 0, 400)], [], [], [], [(2, (5, 0)), (0, (3, 0)), (1, (4, 0))], [(0, 3), (1, 4)], []), [], 0, 0, (400, [((-1), 5)]))]) (fuel := 246) (pl := 798) (by decide +kernel) (by decide +kernel) zd_X5_sum (by
  intro K h
  rcases List.mem_cons.mp h with rfl | h
  · exact zq_86 hW
  rcases List.mem_cons.mp h with rfl | h
  · exact zq_54 hW
  rcases List.mem_cons.mp h with rfl | h
  · exact zq_39 hW
  rw [List.mem_singleton.mp h]
  exact zq_62 hW)
