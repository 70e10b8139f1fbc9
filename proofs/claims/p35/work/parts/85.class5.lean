/-! part 65: contracts of the class, by the checker -/
/-- X8_tell -/
def zK_154 : zk_K := (zt_mn 60, prog_10_method_5_code, 3, (Option.none : Option Jvm.ClassFile.FieldType), 1, 8, [(2, 8, 0, 0), (2, 32, 0, 0), (0, 0, (-1), 872)], [(none, [])], [(32, 1002, 0)], (0, 0, 0, 0))
theorem zq_154 {l : Launch} {w : zk_W} (hW : zh_W w) : zh_K l w zK_154 := zh_meth hW (lk := [(2, 41, 8, 6, 0)]) (KS := []) (km := []) (lc := []) (CL0 := zc_X8_tell) (ns := []) (AN := []) (fuel := 118) (pl := 794) (by decide +kernel) (by decide +kernel) zd_X8_tell (fun K h => nomatch h)
/-- X5_wholeSum -/
def zK_155 : zk_K := (zt_mn 59, prog_7_method_7_code, 2, (Option.some Jvm.ClassFile.FieldType.boolean), 1, 5, [(2, 5, 0, 0), (2, 32, 0, 0)], [(some (0, 0, 0, 0), []), (some (0, 0, 1, 1), [])], [(32, 1002, 0), (5, 4, 0), (7, 3, 0), (7, 5, 0), (7, 2, 0), (7, 4, 0), (35, 1001, 0), (8, 7, 0)], (37, 885, 0, 0))
theorem zq_155 {l : Launch} {w : zk_W} (hW : zh_W w) : zh_K l w zK_155 := zh_meth hW (lk := [(2, 16, 5, 1, 18), (2, 117, 8, 7, 0)]) (KS := [zK_154, zK_90, zK_62]) (km := [60, 61, 66]) (lc := [(0, 108, 60), (0, 126, 61), (0, 123, 66)]) (CL0 := zc_X5_wholeSum) (ns := [(17, 1, []), (31, 2, [])]) (AN := []) (fuel := 134) (pl := 790) (by decide +kernel) (by decide +kernel) zd_X5_wholeSum (by
  intro K h
  rcases List.mem_cons.mp h with rfl | h
  · exact zq_154 hW
  rcases List.mem_cons.mp h with rfl | h
  · exact zq_90 hW
  rw [List.mem_singleton.mp h]
  exact zq_62 hW)
/-- X5_orderClause -/
def zK_156 : zk_K := (zt_mn 45, prog_7_method_4_code, 2, (Option.some Jvm.ClassFile.FieldType.boolean), 1, 5, [(2, 5, 0, 0)], [(some (0, 0, 0, 0), []), (some (0, 0, 1, 1), [])], [(30, 1002, 0), (31, 1002, 0), (32, 1002, 0), (33, 1002, 0), (34, 1002, 0), (8, 6, 0), (7, 3, 0), (7, 5, 0), (7, 2, 0), (7, 4, 0), (5, 4, 0), (35, 1001, 0), (8, 7, 0)], (49, 1126, 0, 0))
theorem zq_156 {l : Launch} {w : zk_W} (hW : zh_W w) : zh_K l w zK_156 := zh_meth hW (lk := [(2, 24, 5, 0, 18), (9, 86, 200, 0, 0), (2, 16, 5, 1, 18), (2, 75, 8, 1, 34), (9, 88, 203, 0, 0), (2, 94, 8, 2, 34)]) (KS := [zK_143, zK_44, zK_39, zK_139, zK_153, zK_155, zK_149, zK_137]) (km := [46, 58, 43, 59, 68, 59, 69, 70]) (lc := [(0, 65, 46), (0, 69, 58), (0, 60, 43), (0, 79, 59), (0, 90, 68), (0, 97, 69), (0, 83, 70)]) (CL0 := zc_X5_orderClause) (ns := [(20, 1, []), (32, 2, []), (48, 3, []), (67, 4, []), (79, 2, []), (90, 5, []), (99, 6, []), (106, 7, [])]) (AN := []) (fuel := 290) (pl := 728) (by decide +kernel) (by decide +kernel) zd_X5_orderClause (by
  intro K h
  rcases List.mem_cons.mp h with rfl | h
  · exact zq_143 hW
  rcases List.mem_cons.mp h with rfl | h
  · exact zq_44 hW
  rcases List.mem_cons.mp h with rfl | h
  · exact zq_39 hW
  rcases List.mem_cons.mp h with rfl | h
  · exact zq_139 hW
  rcases List.mem_cons.mp h with rfl | h
  · exact zq_153 hW
  rcases List.mem_cons.mp h with rfl | h
  · exact zq_155 hW
  rcases List.mem_cons.mp h with rfl | h
  · exact zq_149 hW
  rw [List.mem_singleton.mp h]
  exact zq_137 hW)
/-- X5_read -/
def zK_157 : zk_K := (zt_mn 40, prog_7_method_2_code, 4, (Option.some Jvm.ClassFile.FieldType.boolean), 1, 5, [(2, 5, 0, 0), (0, 0, 0, 1)], [(some (0, 0, 0, 0), []), (some (0, 0, 1, 1), [])], [(5, 3, 0), (5, 4, 0), (8, 6, 0), (8, 7, 0), (7, 4, 0), (7, 3, 0), (7, 5, 0), (7, 2, 0), (5, 2, 0), (30, 1002, 0), (31, 1002, 0), (32, 1002, 0), (33, 1002, 0), (34, 1002, 0), (35, 1001, 0)], (50, 1147, 0, 0))
theorem zq_157 {l : Launch} {w : zk_W} (hW : zh_W w) : zh_K l w zK_157 := zh_meth hW (lk := [(2, 28, 5, 3, 3), (2, 32, 5, 4, 0), (2, 16, 5, 1, 18), (2, 24, 5, 0, 18), (2, 20, 5, 2, 0), (2, 50, 7, 2, 0), (2, 57, 7, 3, 0)]) (KS := [zK_37, zK_40, zK_156, zK_140, zK_54, zK_39]) (km := [41, 42, 45, 77, 64, 43]) (lc := [(0, 35, 41), (0, 38, 42), (0, 43, 45), (0, 47, 77), (0, 53, 64), (0, 60, 43)]) (CL0 := zc_X5_read) (ns := [(21, 1, []), (42, 2, []), (49, 3, []), (79, 4, []), (102, 5, [])]) (AN := [(31, ([(0, 0, 0, 0), (1, 0, 0, 0), (2, 0, (-1), (-1)), (2, 5, 0, 0), (0, 0, 0, 1), (0, 0, 0, 12), (2, 7, 0, 0), (2, 8, 0, 0)], [], [(3, 2, (0, (-1))), (3, 0, (6, 0)), (3, 1, (7, 0)), (3, 3, (4, 0))], [], [(2, (5, 0)), (0, (3, 0)), (1, (4, 0))], [(0, 3), (1, 4)], []), [], 0, 0, (12, [((-1), 5)]))]) (fuel := 298) (pl := 708) (by decide +kernel) (by decide +kernel) zd_X5_read (by
  intro K h
  rcases List.mem_cons.mp h with rfl | h
  · exact zq_37 hW
  rcases List.mem_cons.mp h with rfl | h
  · exact zq_40 hW
  rcases List.mem_cons.mp h with rfl | h
  · exact zq_156 hW
  rcases List.mem_cons.mp h with rfl | h
  · exact zq_140 hW
  rcases List.mem_cons.mp h with rfl | h
  · exact zq_54 hW
  rw [List.mem_singleton.mp h]
  exact zq_39 hW)
/-- X8_init -/
def zK_158 : zk_K := (zt_mn 11, prog_10_method_1_code, 4, (Option.none : Option Jvm.ClassFile.FieldType), 2, 8, [(3, 9, 0, 0), (0, 0, (-2147483648), 2147483647), (0, 0, (-2147483648), 2147483647)], [(none, [])], [], (1, 60, 6, 932))
theorem zq_158 {l : Launch} {w : zk_W} (hW : zh_W w) : zh_K l w zK_158 := zh_meth hW (lk := [(7, 7, 0, 0, 0), (6, 13, 1, 0, 0), (6, 19, 0, 0, 0), (5, 1, 1, 0, 0), (2, 22, 8, 0, 18), (2, 26, 8, 1, 18), (2, 29, 8, 2, 18), (2, 32, 8, 3, 18), (2, 35, 8, 4, 18), (2, 38, 8, 5, 18)]) (KS := []) (km := []) (lc := []) (CL0 := zc_X8_init) (ns := [(17, 36, []), (24, 37, []), (31, 38, []), (38, 39, []), (45, 40, []), (62, 41, [])]) (AN := []) (fuel := 198) (pl := 471) (by decide +kernel) (by decide +kernel) zd_X8_init (fun K h => nomatch h)
/-- X8_copy -/
def zK_159 : zk_K := (zt_mn 78, prog_10_method_2_code, 3, (Option.some (Jvm.ClassFile.FieldType.object "WoundTown$Text")), 1, 8, [(2, 8, 0, 0)], [(some (2, 9, 0, 0), [])], [(36, 1001, 0), (37, 1001, 0), (38, 1001, 0), (39, 1001, 0), (40, 1001, 0), (41, 1001, 0)], (2, 83, 7, 940))
theorem zq_159 {l : Launch} {w : zk_W} (hW : zh_W w) : zh_K l w zK_159 := zh_meth hW (lk := [(3, 3, 8, 8, 0), (2, 41, 8, 6, 0), (2, 45, 8, 7, 0), (2, 22, 8, 0, 18), (8, 51, 0, 0, 0), (2, 26, 8, 1, 18), (2, 29, 8, 2, 18), (2, 32, 8, 3, 18), (2, 35, 8, 4, 18), (2, 38, 8, 5, 18)]) (KS := [zK_158]) (km := [11]) (lc := [(2, 48, 11)]) (CL0 := zc_X8_copy) (ns := []) (AN := []) (fuel := 338) (pl := 878) (by decide +kernel) (by decide +kernel) zd_X8_copy (by
  intro K h
  rw [List.mem_singleton.mp h]
  exact zq_158 hW)
/-- X11_law -/
def zK_160 : zk_K := (zt_mn 39, prog_1_method_14_code, 2, (Option.some Jvm.ClassFile.FieldType.int), 1, 11, [(2, 12, 0, 0)], [(some (0, 0, (-6), 5), [])], [(5, 3, 0), (5, 4, 0), (8, 6, 0), (8, 7, 0), (7, 4, 0), (7, 3, 0), (7, 5, 0), (7, 2, 0), (5, 2, 0), (30, 1002, 0), (31, 1002, 0), (32, 1002, 0), (33, 1002, 0), (34, 1002, 0), (35, 1001, 0), (7, 1, 0), (12, 18, 0), (57, 1002, 0), (36, 1001, 0), (37, 1001, 0), (38, 1001, 0), (39, 1001, 0), (40, 1001, 0), (41, 1001, 0), (52, 1001, 0), (10, 14, 0)], (51, 1170, 7, 940))
theorem zq_160 {l : Launch} {w : zk_W} (hW : zh_W w) : zh_K l w zK_160 := zh_meth hW (lk := [(2, 10, 11, 0, 18), (2, 205, 9, 14, 0), (2, 67, 11, 8, 18), (2, 193, 7, 1, 0), (2, 76, 11, 9, 18), (2, 212, 9, 13, 34), (2, 216, 5, 1, 34)]) (KS := [zK_13, zK_157, zK_159, zK_14]) (km := [16, 40, 78, 17]) (lc := [(0, 111, 16), (0, 208, 40), (0, 220, 78), (0, 118, 17)]) (CL0 := zc_X11_law) (ns := [(32, 1, []), (76, 2, []), (103, 3, [])]) (AN := []) (fuel := 266) (pl := 704) (by decide +kernel) (by decide +kernel) zd_X11_law (by
  intro K h
  rcases List.mem_cons.mp h with rfl | h
  · exact zq_13 hW
  rcases List.mem_cons.mp h with rfl | h
  · exact zq_157 hW
  rcases List.mem_cons.mp h with rfl | h
  · exact zq_159 hW
  rw [List.mem_singleton.mp h]
  exact zq_14 hW)
/-- X2_copyFrom -/
def zK_161 : zk_K := (zt_mn 80, prog_4_method_2_code, 2, (Option.none : Option Jvm.ClassFile.FieldType), 1, 2, [(2, 2, 0, 0), (2, 2, 0, 0)], [(none, [])], [(17, 1001, 0), (18, 1001, 0), (19, 1001, 0), (2, 3, 0), (2, 4, 0), (2, 5, 0), (2, 6, 0)], (1, 60, 0, 0))
theorem zq_161 {l : Launch} {w : zk_W} (hW : zh_W w) : zh_K l w zK_161 := zh_meth hW (lk := [(2, 9, 2, 0, 18), (8, 28, 0, 0, 0), (2, 15, 2, 1, 18), (2, 18, 2, 2, 18), (2, 21, 2, 3, 0), (2, 34, 2, 4, 3), (2, 25, 2, 5, 0), (2, 38, 2, 6, 0)]) (KS := []) (km := []) (lc := []) (CL0 := zc_X2_copyFrom) (ns := []) (AN := []) (fuel := 214) (pl := 892) (by decide +kernel) (by decide +kernel) zd_X2_copyFrom (fun K h => nomatch h)
/-- X10_copyFrom -/
def zK_162 : zk_K := (zt_mn 81, prog_12_method_5_code, 2, (Option.none : Option Jvm.ClassFile.FieldType), 1, 10, [(2, 11, 0, 0), (2, 11, 0, 0)], [(none, [])], [(53, 1001, 0), (54, 1001, 0), (11, 2, 0), (11, 3, 0)], (1, 60, 0, 0))
theorem zq_162 {l : Launch} {w : zk_W} (hW : zh_W w) : zh_K l w zK_162 := zh_meth hW (lk := [(2, 11, 10, 0, 18), (8, 34, 0, 0, 0), (2, 17, 10, 1, 18), (2, 24, 10, 2, 0), (2, 20, 10, 3, 0)]) (KS := []) (km := []) (lc := []) (CL0 := zc_X10_copyFrom) (ns := []) (AN := []) (fuel := 150) (pl := 897) (by decide +kernel) (by decide +kernel) zd_X10_copyFrom (fun K h => nomatch h)
/-- X11_tellOrderWords -/
def zK_163 : zk_K := (zt_mn 83, prog_1_method_17_code, 3, (Option.none : Option Jvm.ClassFile.FieldType), 1, 11, [(2, 12, 0, 0)], [(none, [])], [(56, 1002, 0)], (1, 21, 0, 0))
theorem zq_163 {l : Launch} {w : zk_W} (hW : zh_W w) : zh_K l w zK_163 := zh_meth hW (lk := [(2, 10, 11, 0, 18), (2, 135, 9, 18, 34), (2, 90, 11, 12, 18), (2, 178, 2, 6, 0), (2, 280, 2, 5, 0), (2, 283, 2, 3, 0), (2, 233, 11, 13, 0), (2, 94, 11, 14, 0), (2, 144, 2, 1, 34), (2, 163, 9, 5, 34), (2, 175, 2, 2, 34)]) (KS := [zK_19, zK_21]) (km := [22, 26]) (lc := [(0, 131, 22), (0, 150, 26)]) (CL0 := zc_X11_tellOrderWords) (ns := [(122, 1, [])]) (AN := [(60, ([(0, 0, 0, 0), (1, 0, 0, 0), (2, 0, (-1), (-1)), (2, 12, 0, 0), (0, 0, 0, 6), (2, 2, 0, 0), (0, 0, (-2147483648), 2147483647), (0, 0, (-2147483648), 2147483647), (2, 56, 0, 0), (2, 10, 0, 0), (0, 0, (-2147483648), 2147483647), (0, 0, (-2147483648), 2147483647), (0, 0, (-2147483648), 2147483647)], [], [(3, 14, (6, 0)), (3, 13, (7, 0)), (3, 12, (8, 0)), (3, 0, (9, 0)), (5, 3, (10, 0)), (5, 5, (11, 0)), (5, 6, (12, 0)), (9, 18, (5, 0))], [], [(2, (4, 0)), (1, (5, 0)), (0, (3, 0))], [(0, 3)], []), [], 0, 0, (147, [((-1), 4)])),
  (103, ([(0, 0, 0, 0), (1, 0, 0, 0), (2, 0, (-1), (-1)), (2, 12, 0, 0), (0, 0, 0, 10), (2, 2, 0, 0), (0, 0, (-2147483648), 2147483647), (0, 0, (-2147483648), 2147483647), (2, 56, 0, 0), (2, 10, 0, 0), (0, 0, (-2147483648), 2147483647), (0, 0, (-2147483648), 2147483647), (0, 0, (-2147483648), 2147483647)], [], [(3, 14, (6, 0)), (3, 13, (7, 0)), (3, 12, (8, 0)), (3, 0, (9, 0)), (5, 3, (10, 0)), (5, 5, (11, 0)), (5, 6, (12, 0)), (9, 18, (5, 0))], [], [(2, (4, 0)), (1, (5, 0)), (0, (3, 0))], [(0, 3)], []), [], 0, 0, (70, [((-7), 4)]))]) (fuel := 406) (pl := 906) (by decide +kernel) (by decide +kernel) zd_X11_tellOrderWords (by
  intro K h
  rcases List.mem_cons.mp h with rfl | h
  · exact zq_19 hW
  rw [List.mem_singleton.mp h]
  exact zq_21 hW)
/-- X6_value -/
def zK_164 : zk_K := (zt_mn 84, prog_8_method_12_code, 14, (Option.some Jvm.ClassFile.FieldType.long), 1, 6, [(2, 6, 0, 0), (2, 8, 0, 0), (0, 0, (-1), 872), (2, 56, 0, 0)], [(some (1, 0, (-9223372036854775808), 9223372036854775807), [(4, 2, 9223372036854775807)])], [(28, 1002, 0)], (0, 0, 0, 0))
theorem zq_164 {l : Launch} {w : zk_W} (hW : zh_W w) : zh_K l w zK_164 := zh_meth hW (lk := [(2, 86, 8, 5, 34), (2, 15, 6, 1, 18), (1, 53, 0, 0, (-9000000000)), (1, 89, 0, 0, 1000000000), (1, 91, 0, 0, (-1000000000))]) (KS := []) (km := []) (lc := []) (CL0 := zc_X6_value) (ns := [(2, 1, []), (15, 1, []), (27, 1, []), (34, 1, []), (60, 1, []), (66, 1, []), (72, 1, []), (77, 1, []), (84, 1, []), (102, 1, []), (126, 1, []), (146, 1, []), (155, 1, []), (177, 1, []), (183, 1, []), (189, 1, []), (201, 1, []), (209, 1, []), (224, 1, []), (239, 1, []), (337, 1, []), (360, 1, []), (384, 1, []), (402, 1, []), (420, 1, []), (436, 1, []), (445, 1, [])]) (AN := [(13, ([(0, 0, 0, 0), (1, 0, 0, 0), (2, 0, (-1), (-1)), (2, 6, 0, 0), (2, 8, 0, 0), (0, 0, 0, 872), (2, 56, 0, 0), (0, 0, 0, 1000000), (0, 0, 0, 64)], [(5, 7, 869)], [], [], [(5, (7, 0)), (4, (8, 0)), (0, (3, 0)), (1, (4, 0)), (3, (6, 0))], [(0, 3), (1, 4), (2, 5), (3, 6)], []), [], 0, 0, (4000000, [((-4), 7)])),
  (116, ([(0, 0, 0, 0), (1, 0, 0, 0), (2, 0, (-1), (-1)), (2, 6, 0, 0), (2, 8, 0, 0), (0, 0, 0, 872), (2, 56, 0, 0), (0, 0, 0, 870), (0, 0, 0, 63), (1, 0, (-2147483648), 2147483647), (2, 28, 0, 0), (2, 35, 0, 0), (0, 0, 872, 872)], [(5, 7, 869)], [(3, 1, (10, 0)), (4, 5, (11, 0)), (11, 1000, (12, 0))], [], [(5, (7, 0)), (4, (8, 0)), (0, (3, 0)), (1, (4, 0)), (3, (6, 0))], [(0, 3), (1, 4), (2, 5), (3, 6)], []), [(9, 0), (8, 0), (10, 0)], 0, 0, (3999999, [((-4), 7)])),
  (464, ([(0, 0, 0, 0), (1, 0, 0, 0), (2, 0, (-1), (-1)), (2, 6, 0, 0), (2, 8, 0, 0), (0, 0, 0, 872), (2, 56, 0, 0), (0, 0, 0, 64), (0, 0, 0, 999998), (2, 28, 0, 0), (2, 35, 0, 0), (0, 0, 872, 872)], [(5, 8, 871)], [(3, 1, (9, 0)), (4, 5, (10, 0)), (10, 1000, (11, 0))], [], [(4, (7, 0)), (5, (8, 0)), (0, (3, 0)), (1, (4, 0)), (3, (6, 0))], [(0, 3), (1, 4), (2, 5), (3, 6)], []), [], 0, 0, (3999997, [((-4), 8)])),
  (431, ([(0, 0, 0, 0), (1, 0, 0, 0), (2, 0, (-1), (-1)), (2, 6, 0, 0), (2, 8, 0, 0), (0, 0, 0, 872), (2, 56, 0, 0), (1, 0, (-9223372036854775808), 9223372036854775807), (0, 0, 1, 63), (0, 0, 0, 870), (2, 28, 0, 0), (2, 35, 0, 0), (0, 0, 872, 872)], [(5, 9, 869)], [(3, 1, (10, 0)), (4, 5, (11, 0)), (11, 1000, (12, 0))], [], [(12, (7, 0)), (4, (8, 0)), (5, (9, 0)), (0, (3, 0)), (1, (4, 0)), (3, (6, 0))], [(0, 3), (1, 4), (2, 5), (3, 6)], []), [], 0, 0, (3999998, [((-4), 9)]))]) (fuel := 958) (pl := 910) (by decide +kernel) (by decide +kernel) zd_X6_value (fun K h => nomatch h)
/-- X11_areTurns -/
def zK_165 : zk_K := (zt_mn 86, prog_1_method_54_code, 1, (Option.some Jvm.ClassFile.FieldType.boolean), 0, 11, [(0, 0, (-2147483648), 2147483647)], [(some (0, 0, 0, 0), []), (some (0, 0, 1, 1), [(0, 1, 11), (0, 99, 12), (1, 0, 1), (99, 0, 0)])], [], (1, 22, 0, 0))
theorem zq_165 {l : Launch} {w : zk_W} (hW : zh_W w) : zh_K l w zK_165 := zh_meth hW (lk := []) (KS := [zK_12]) (km := [15]) (lc := [(1, 107, 15)]) (CL0 := zc_X11_areTurns) (ns := []) (AN := []) (fuel := 70) (pl := 921) (by decide +kernel) (by decide +kernel) zd_X11_areTurns (by
  intro K h
  rw [List.mem_singleton.mp h]
  exact zq_12 hW)
/-- X9_mostTurns -/
def zK_166 : zk_K := (zt_mn 87, prog_11_method_11_code, 2, (Option.some Jvm.ClassFile.FieldType.int), 1, 9, [(2, 10, 0, 0), (2, 2, 0, 0)], [(some (0, 0, (-2147483648), 2147483647), [])], [], (0, 0, 0, 0))
theorem zq_166 {l : Launch} {w : zk_W} (hW : zh_W w) : zh_K l w zK_166 := zh_meth hW (lk := [(2, 103, 2, 6, 0), (2, 52, 9, 16, 0)]) (KS := []) (km := []) (lc := []) (CL0 := zc_X9_mostTurns) (ns := [(9, 1, [])]) (AN := []) (fuel := 94) (pl := 925) (by decide +kernel) (by decide +kernel) zd_X9_mostTurns (fun K h => nomatch h)
/-- X2_keepIn -/
def zK_167 : zk_K := (zt_mn 89, prog_4_method_3_code, 4, (Option.none : Option Jvm.ClassFile.FieldType), 1, 2, [(2, 2, 0, 0), (2, 54, 0, 0), (0, 0, 390, 390)], [(none, [])], [(54, 1001, 0)], (1, 60, 0, 0))
theorem zq_167 {l : Launch} {w : zk_W} (hW : zh_W w) : zh_K l w zK_167 := zh_meth hW (lk := [(2, 9, 2, 0, 18), (8, 28, 0, 0, 0), (2, 15, 2, 1, 18), (2, 18, 2, 2, 18), (2, 21, 2, 3, 0), (2, 34, 2, 4, 3), (2, 25, 2, 5, 0), (2, 38, 2, 6, 0)]) (KS := []) (km := []) (lc := []) (CL0 := zc_X2_keepIn) (ns := []) (AN := []) (fuel := 334) (pl := 933) (by decide +kernel) (by decide +kernel) zd_X2_keepIn (fun K h => nomatch h)
/-- X2_keepIn -/
def zK_168 : zk_K := (zt_mn 89, prog_4_method_3_code, 4, (Option.none : Option Jvm.ClassFile.FieldType), 1, 2, [(2, 2, 0, 0), (2, 54, 0, 0), (0, 0, 364, 364)], [(none, [])], [(54, 1001, 0)], (1, 60, 0, 0))
theorem zq_168 {l : Launch} {w : zk_W} (hW : zh_W w) : zh_K l w zK_168 := zh_meth hW (lk := [(2, 9, 2, 0, 18), (8, 28, 0, 0, 0), (2, 15, 2, 1, 18), (2, 18, 2, 2, 18), (2, 21, 2, 3, 0), (2, 34, 2, 4, 3), (2, 25, 2, 5, 0), (2, 38, 2, 6, 0)]) (KS := []) (km := []) (lc := []) (CL0 := zc_X2_keepIn) (ns := []) (AN := []) (fuel := 334) (pl := 933) (by decide +kernel) (by decide +kernel) zd_X2_keepIn (fun K h => nomatch h)
/-- X2_keepIn -/
def zK_169 : zk_K := (zt_mn 89, prog_4_method_3_code, 4, (Option.none : Option Jvm.ClassFile.FieldType), 1, 2, [(2, 2, 0, 0), (2, 54, 0, 0), (0, 0, 338, 338)], [(none, [])], [(54, 1001, 0)], (1, 60, 0, 0))
theorem zq_169 {l : Launch} {w : zk_W} (hW : zh_W w) : zh_K l w zK_169 := zh_meth hW (lk := [(2, 9, 2, 0, 18), (8, 28, 0, 0, 0), (2, 15, 2, 1, 18), (2, 18, 2, 2, 18), (2, 21, 2, 3, 0), (2, 34, 2, 4, 3), (2, 25, 2, 5, 0), (2, 38, 2, 6, 0)]) (KS := []) (km := []) (lc := []) (CL0 := zc_X2_keepIn) (ns := []) (AN := []) (fuel := 334) (pl := 933) (by decide +kernel) (by decide +kernel) zd_X2_keepIn (fun K h => nomatch h)
/-- X2_keepIn -/
def zK_170 : zk_K := (zt_mn 89, prog_4_method_3_code, 4, (Option.none : Option Jvm.ClassFile.FieldType), 1, 2, [(2, 2, 0, 0), (2, 54, 0, 0), (0, 0, 312, 312)], [(none, [])], [(54, 1001, 0)], (1, 60, 0, 0))
theorem zq_170 {l : Launch} {w : zk_W} (hW : zh_W w) : zh_K l w zK_170 := zh_meth hW (lk := [(2, 9, 2, 0, 18), (8, 28, 0, 0, 0), (2, 15, 2, 1, 18), (2, 18, 2, 2, 18), (2, 21, 2, 3, 0), (2, 34, 2, 4, 3), (2, 25, 2, 5, 0), (2, 38, 2, 6, 0)]) (KS := []) (km := []) (lc := []) (CL0 := zc_X2_keepIn) (ns := []) (AN := []) (fuel := 334) (pl := 933) (by decide +kernel) (by decide +kernel) zd_X2_keepIn (fun K h => nomatch h)
/-- X2_keepIn -/
def zK_171 : zk_K := (zt_mn 89, prog_4_method_3_code, 4, (Option.none : Option Jvm.ClassFile.FieldType), 1, 2, [(2, 2, 0, 0), (2, 54, 0, 0), (0, 0, 286, 286)], [(none, [])], [(54, 1001, 0)], (1, 60, 0, 0))
theorem zq_171 {l : Launch} {w : zk_W} (hW : zh_W w) : zh_K l w zK_171 := zh_meth hW (lk := [(2, 9, 2, 0, 18), (8, 28, 0, 0, 0), (2, 15, 2, 1, 18), (2, 18, 2, 2, 18), (2, 21, 2, 3, 0), (2, 34, 2, 4, 3), (2, 25, 2, 5, 0), (2, 38, 2, 6, 0)]) (KS := []) (km := []) (lc := []) (CL0 := zc_X2_keepIn) (ns := []) (AN := []) (fuel := 334) (pl := 933) (by decide +kernel) (by decide +kernel) zd_X2_keepIn (fun K h => nomatch h)
/-- X2_keepIn -/
def zK_172 : zk_K := (zt_mn 89, prog_4_method_3_code, 4, (Option.none : Option Jvm.ClassFile.FieldType), 1, 2, [(2, 2, 0, 0), (2, 54, 0, 0), (0, 0, 260, 260)], [(none, [])], [(54, 1001, 0)], (1, 60, 0, 0))
theorem zq_172 {l : Launch} {w : zk_W} (hW : zh_W w) : zh_K l w zK_172 := zh_meth hW (lk := [(2, 9, 2, 0, 18), (8, 28, 0, 0, 0), (2, 15, 2, 1, 18), (2, 18, 2, 2, 18), (2, 21, 2, 3, 0), (2, 34, 2, 4, 3), (2, 25, 2, 5, 0), (2, 38, 2, 6, 0)]) (KS := []) (km := []) (lc := []) (CL0 := zc_X2_keepIn) (ns := []) (AN := []) (fuel := 334) (pl := 933) (by decide +kernel) (by decide +kernel) zd_X2_keepIn (fun K h => nomatch h)
/-- X2_keepIn -/
def zK_173 : zk_K := (zt_mn 89, prog_4_method_3_code, 4, (Option.none : Option Jvm.ClassFile.FieldType), 1, 2, [(2, 2, 0, 0), (2, 54, 0, 0), (0, 0, 234, 234)], [(none, [])], [(54, 1001, 0)], (1, 60, 0, 0))
theorem zq_173 {l : Launch} {w : zk_W} (hW : zh_W w) : zh_K l w zK_173 := zh_meth hW (lk := [(2, 9, 2, 0, 18), (8, 28, 0, 0, 0), (2, 15, 2, 1, 18), (2, 18, 2, 2, 18), (2, 21, 2, 3, 0), (2, 34, 2, 4, 3), (2, 25, 2, 5, 0), (2, 38, 2, 6, 0)]) (KS := []) (km := []) (lc := []) (CL0 := zc_X2_keepIn) (ns := []) (AN := []) (fuel := 334) (pl := 933) (by decide +kernel) (by decide +kernel) zd_X2_keepIn (fun K h => nomatch h)
/-- X2_keepIn -/
def zK_174 : zk_K := (zt_mn 89, prog_4_method_3_code, 4, (Option.none : Option Jvm.ClassFile.FieldType), 1, 2, [(2, 2, 0, 0), (2, 54, 0, 0), (0, 0, 208, 208)], [(none, [])], [(54, 1001, 0)], (1, 60, 0, 0))
theorem zq_174 {l : Launch} {w : zk_W} (hW : zh_W w) : zh_K l w zK_174 := zh_meth hW (lk := [(2, 9, 2, 0, 18), (8, 28, 0, 0, 0), (2, 15, 2, 1, 18), (2, 18, 2, 2, 18), (2, 21, 2, 3, 0), (2, 34, 2, 4, 3), (2, 25, 2, 5, 0), (2, 38, 2, 6, 0)]) (KS := []) (km := []) (lc := []) (CL0 := zc_X2_keepIn) (ns := []) (AN := []) (fuel := 334) (pl := 933) (by decide +kernel) (by decide +kernel) zd_X2_keepIn (fun K h => nomatch h)
/-- X2_keepIn -/
def zK_175 : zk_K := (zt_mn 89, prog_4_method_3_code, 4, (Option.none : Option Jvm.ClassFile.FieldType), 1, 2, [(2, 2, 0, 0), (2, 54, 0, 0), (0, 0, 182, 182)], [(none, [])], [(54, 1001, 0)], (1, 60, 0, 0))
theorem zq_175 {l : Launch} {w : zk_W} (hW : zh_W w) : zh_K l w zK_175 := zh_meth hW (lk := [(2, 9, 2, 0, 18), (8, 28, 0, 0, 0), (2, 15, 2, 1, 18), (2, 18, 2, 2, 18), (2, 21, 2, 3, 0), (2, 34, 2, 4, 3), (2, 25, 2, 5, 0), (2, 38, 2, 6, 0)]) (KS := []) (km := []) (lc := []) (CL0 := zc_X2_keepIn) (ns := []) (AN := []) (fuel := 334) (pl := 933) (by decide +kernel) (by decide +kernel) zd_X2_keepIn (fun K h => nomatch h)
/-- X2_keepIn -/
def zK_176 : zk_K := (zt_mn 89, prog_4_method_3_code, 4, (Option.none : Option Jvm.ClassFile.FieldType), 1, 2, [(2, 2, 0, 0), (2, 54, 0, 0), (0, 0, 156, 156)], [(none, [])], [(54, 1001, 0)], (1, 60, 0, 0))
theorem zq_176 {l : Launch} {w : zk_W} (hW : zh_W w) : zh_K l w zK_176 := zh_meth hW (lk := [(2, 9, 2, 0, 18), (8, 28, 0, 0, 0), (2, 15, 2, 1, 18), (2, 18, 2, 2, 18), (2, 21, 2, 3, 0), (2, 34, 2, 4, 3), (2, 25, 2, 5, 0), (2, 38, 2, 6, 0)]) (KS := []) (km := []) (lc := []) (CL0 := zc_X2_keepIn) (ns := []) (AN := []) (fuel := 334) (pl := 933) (by decide +kernel) (by decide +kernel) zd_X2_keepIn (fun K h => nomatch h)
/-- X2_keepIn -/
def zK_177 : zk_K := (zt_mn 89, prog_4_method_3_code, 4, (Option.none : Option Jvm.ClassFile.FieldType), 1, 2, [(2, 2, 0, 0), (2, 54, 0, 0), (0, 0, 130, 130)], [(none, [])], [(54, 1001, 0)], (1, 60, 0, 0))
theorem zq_177 {l : Launch} {w : zk_W} (hW : zh_W w) : zh_K l w zK_177 := zh_meth hW (lk := [(2, 9, 2, 0, 18), (8, 28, 0, 0, 0), (2, 15, 2, 1, 18), (2, 18, 2, 2, 18), (2, 21, 2, 3, 0), (2, 34, 2, 4, 3), (2, 25, 2, 5, 0), (2, 38, 2, 6, 0)]) (KS := []) (km := []) (lc := []) (CL0 := zc_X2_keepIn) (ns := []) (AN := []) (fuel := 334) (pl := 933) (by decide +kernel) (by decide +kernel) zd_X2_keepIn (fun K h => nomatch h)
