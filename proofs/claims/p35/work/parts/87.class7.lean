/-! part 67: contracts of the class, by the checker -/
/-- X11_mendBy -/
def zK_208 : zk_K := (zt_mn 114, prog_1_method_29_code, 3, (Option.some Jvm.ClassFile.FieldType.int), 1, 11, [(2, 12, 0, 0), (0, 0, (-2147483648), 2147483647)], [(some (0, 0, (-1), (-1)), []), (some (0, 0, (-2147483648), 9999), [(1, 2, 2147493647), (1, 99, 9999), (2, 1, 9998), (99, 1, (-1))])], [(11, 2, 0), (53, 1002, 0), (54, 1001, 0), (11, 3, 0), (2, 3, 0), (2, 4, 0)], (3, 106, 0, 0))
theorem zq_208 {l : Launch} {w : zk_W} (hW : zh_W w) : zh_K l w zK_208 := zh_meth hW (lk := [(2, 10, 11, 0, 18), (2, 135, 9, 18, 34), (2, 280, 2, 5, 0), (2, 23, 11, 2, 18), (2, 283, 2, 3, 0), (6, 335, 1, 0, 0), (2, 308, 2, 4, 3)]) (KS := [zK_12, zK_183]) (km := [15, 88]) (lc := [(1, 107, 15), (0, 316, 88)]) (CL0 := zc_X11_mendBy) (ns := [(38, 1, [])]) (AN := []) (fuel := 194) (pl := 1037) (by decide +kernel) (by decide +kernel) zd_X11_mendBy (by
  intro K h
  rcases List.mem_cons.mp h with rfl | h
  · exact zq_12 hW
  rw [List.mem_singleton.mp h]
  exact zq_183 hW)
/-- X11_isClauseRun -/
def zK_209 : zk_K := (zt_mn 82, prog_1_method_16_code, 10, (Option.some Jvm.ClassFile.FieldType.boolean), 1, 11, [(2, 12, 0, 0), (2, 8, 0, 0), (0, 0, 0, 11)], [(some (0, 0, 0, 0), []), (some (0, 0, 1, 1), [])], [(56, 1002, 0), (28, 1002, 0), (11, 2, 0), (53, 1002, 0), (54, 1001, 0), (11, 3, 0), (6, 2, 0), (27, 1002, 0), (2, 3, 0), (2, 4, 0), (2, 5, 0), (12, 13, 0), (18, 1002, 0), (0, 1, 0), (0, 2, 0), (14, 1002, 0), (15, 1001, 0), (16, 1002, 0), (19, 1001, 0), (2, 6, 0), (17, 1002, 0), (12, 14, 0)], (6, 178, 0, 0))
theorem zq_209 {l : Launch} {w : zk_W} (hW : zh_W w) : zh_K l w zK_209 := zh_meth hW (lk := [(2, 243, 8, 0, 34), (2, 246, 8, 3, 34), (2, 30, 11, 3, 18), (2, 252, 8, 4, 34), (2, 90, 11, 12, 18), (2, 259, 8, 1, 34), (2, 262, 8, 2, 34), (1, 265, 0, 0, (-9000000000)), (2, 233, 11, 13, 0), (2, 94, 11, 14, 0)]) (KS := [zK_163, zK_164, zK_194, zK_196, zK_207, zK_208]) (km := [83, 84, 85, 101, 103, 114]) (lc := [(0, 249, 83), (0, 255, 84), (0, 267, 85), (0, 270, 101), (0, 273, 103), (0, 277, 114)]) (CL0 := zc_X11_isClauseRun) (ns := [(40, 1, []), (66, 1, []), (86, 1, []), (148, 2, []), (163, 3, []), (172, 4, []), (184, 5, [])]) (AN := [(10, ([(0, 0, 0, 0), (1, 0, 0, 0), (2, 0, (-1), (-1)), (2, 12, 0, 0), (2, 8, 0, 0), (0, 0, 0, 11), (0, 0, 0, 2147483647), (0, 0, (-2147483648), 2147483647), (2, 30, 0, 0)], [], [(4, 0, (8, 0))], [], [(4, (6, 0)), (3, (7, 0)), (0, (3, 0)), (1, (4, 0)), (2, (5, 0))], [(0, 3), (1, 4), (2, 5)], []), [], 0, 0, (2147483647, [((-1), 6)]))]) (fuel := 486) (pl := 902) (by decide +kernel) (by decide +kernel) zd_X11_isClauseRun (by
  intro K h
  rcases List.mem_cons.mp h with rfl | h
  · exact zq_163 hW
  rcases List.mem_cons.mp h with rfl | h
  · exact zq_164 hW
  rcases List.mem_cons.mp h with rfl | h
  · exact zq_194 hW
  rcases List.mem_cons.mp h with rfl | h
  · exact zq_196 hW
  rcases List.mem_cons.mp h with rfl | h
  · exact zq_207 hW
  rw [List.mem_singleton.mp h]
  exact zq_208 hW)
/-- X11_orders -/
def zK_210 : zk_K := (zt_mn 79, prog_1_method_15_code, 3, (Option.some Jvm.ClassFile.FieldType.int), 1, 11, [(2, 12, 0, 0)], [(some (0, 0, (-2147483648), 2147483647), [])], [(5, 3, 0), (5, 4, 0), (8, 6, 0), (8, 7, 0), (7, 4, 0), (7, 3, 0), (7, 5, 0), (7, 2, 0), (5, 2, 0), (30, 1002, 0), (31, 1002, 0), (32, 1002, 0), (33, 1002, 0), (34, 1002, 0), (35, 1001, 0), (7, 1, 0), (12, 15, 0), (12, 18, 0), (57, 1002, 0), (17, 1001, 0), (18, 1001, 0), (19, 1001, 0), (2, 3, 0), (2, 4, 0), (2, 5, 0), (2, 6, 0), (53, 1001, 0), (54, 1001, 0), (11, 2, 0), (11, 3, 0), (12, 13, 0), (12, 14, 0), (56, 1002, 0), (28, 1002, 0), (6, 2, 0), (27, 1002, 0), (0, 1, 0), (0, 2, 0), (14, 1002, 0), (15, 1001, 0), (16, 1002, 0)], (51, 1170, 0, 0))
theorem zq_210 {l : Launch} {w : zk_W} (hW : zh_W w) : zh_K l w zK_210 := zh_meth hW (lk := [(2, 76, 11, 9, 18), (2, 67, 11, 8, 18), (2, 193, 7, 1, 0), (2, 98, 11, 15, 0), (2, 83, 11, 10, 18), (2, 10, 11, 0, 18), (2, 135, 9, 18, 34), (2, 87, 11, 11, 18), (2, 23, 11, 2, 18), (2, 233, 11, 13, 0), (2, 94, 11, 14, 0), (2, 216, 5, 1, 34), (2, 236, 8, 6, 0)]) (KS := [zK_157, zK_13, zK_161, zK_162, zK_209, zK_14]) (km := [40, 16, 80, 81, 82, 17]) (lc := [(0, 208, 40), (0, 111, 16), (0, 226, 80), (0, 230, 81), (0, 239, 82), (0, 118, 17)]) (CL0 := zc_X11_orders) (ns := [(29, 1, []), (44, 2, []), (55, 3, []), (93, 4, []), (110, 2, []), (121, 3, []), (132, 1, []), (147, 5, [])]) (AN := [(70, ([(0, 0, 0, 0), (1, 0, 0, 0), (2, 0, (-1), (-1)), (2, 12, 0, 0), (0, 0, 0, 12), (2, 11, 0, 0), (2, 11, 0, 0), (2, 10, 0, 0), (2, 2, 0, 0), (2, 7, 0, 0), (2, 5, 0, 0), (2, 2, 0, 0)], [], [(3, 2, (5, 0)), (3, 11, (6, 0)), (3, 0, (7, 0)), (3, 10, (8, 0)), (3, 15, (0, (-1))), (3, 8, (9, 0)), (3, 9, (10, 0)), (7, 18, (11, 0)), (9, 1, (0, 0))], [], [(2, (4, 0)), (0, (3, 0))], [(0, 3)], []), [], 0, 0, (12, [((-1), 4)]))]) (fuel := 350) (pl := 888) (by decide +kernel) (by decide +kernel) zd_X11_orders (by
  intro K h
  rcases List.mem_cons.mp h with rfl | h
  · exact zq_157 hW
  rcases List.mem_cons.mp h with rfl | h
  · exact zq_13 hW
  rcases List.mem_cons.mp h with rfl | h
  · exact zq_161 hW
  rcases List.mem_cons.mp h with rfl | h
  · exact zq_162 hW
  rcases List.mem_cons.mp h with rfl | h
  · exact zq_209 hW
  rw [List.mem_singleton.mp h]
  exact zq_14 hW)
/-- X11_fault -/
def zK_211 : zk_K := (zt_mn 115, prog_1_method_18_code, 1, (Option.some Jvm.ClassFile.FieldType.int), 1, 11, [(2, 12, 0, 0)], [(some (0, 0, (-2147483648), 2147483647), [])], [], (0, 0, 0, 0))
theorem zq_211 {l : Launch} {w : zk_W} (hW : zh_W w) : zh_K l w zK_211 := zh_meth hW (lk := [(2, 76, 11, 9, 18), (2, 286, 5, 2, 0)]) (KS := []) (km := []) (lc := []) (CL0 := zc_X11_fault) (ns := []) (AN := []) (fuel := 66) (pl := 1042) (by decide +kernel) (by decide +kernel) zd_X11_fault (fun K h => nomatch h)
/-- X11_stopped -/
def zK_212 : zk_K := (zt_mn 116, prog_1_method_19_code, 1, (Option.some Jvm.ClassFile.FieldType.int), 1, 11, [(2, 12, 0, 0)], [(some (0, 0, (-2147483648), 2147483647), [])], [], (0, 0, 0, 0))
theorem zq_212 {l : Launch} {w : zk_W} (hW : zh_W w) : zh_K l w zK_212 := zh_meth hW (lk := [(2, 98, 11, 15, 0)]) (KS := []) (km := []) (lc := []) (CL0 := zc_X11_stopped) (ns := []) (AN := []) (fuel := 62) (pl := 1046) (by decide +kernel) (by decide +kernel) zd_X11_stopped (fun K h => nomatch h)
/-- X11_force -/
def zK_213 : zk_K := (zt_mn 117, prog_1_method_20_code, 3, (Option.some Jvm.ClassFile.FieldType.int), 1, 11, [(2, 12, 0, 0), (0, 0, (-2147483648), 2147483647)], [(some (0, 0, (-2147483648), 2147483647), [(1, 2, 2147483653), (2, 1, 2147483648)])], [(10, 15, 0), (12, 18, 0), (57, 1002, 0)], (1, 22, 0, 0))
theorem zq_213 {l : Launch} {w : zk_W} (hW : zh_W w) : zh_K l w zK_213 := zh_meth hW (lk := [(2, 10, 11, 0, 18), (2, 205, 9, 14, 0), (2, 289, 9, 15, 0)]) (KS := [zK_12, zK_13, zK_14]) (km := [15, 16, 17]) (lc := [(1, 107, 15), (0, 111, 16), (0, 118, 17)]) (CL0 := zc_X11_force) (ns := [(25, 1, []), (47, 2, [])]) (AN := []) (fuel := 162) (pl := 1050) (by decide +kernel) (by decide +kernel) zd_X11_force (by
  intro K h
  rcases List.mem_cons.mp h with rfl | h
  · exact zq_12 hW
  rcases List.mem_cons.mp h with rfl | h
  · exact zq_13 hW
  rw [List.mem_singleton.mp h]
  exact zq_14 hW)
/-- X6_snaps -/
def zK_214 : zk_K := (zt_mn 119, prog_8_method_9_code, 3, (Option.some Jvm.ClassFile.FieldType.int), 1, 6, [(2, 6, 0, 0)], [(some (0, 0, 0, 2147483647), [])], [(27, 1002, 0), (28, 1002, 0)], (2, 82, 0, 0))
theorem zq_214 {l : Launch} {w : zk_W} (hW : zh_W w) : zh_K l w zK_214 := zh_meth hW (lk := [(1, 53, 0, 0, (-9000000000)), (2, 11, 6, 0, 18)]) (KS := [zK_186, zK_187, zK_189, zK_190]) (km := [93, 94, 95, 96]) (lc := [(0, 41, 93), (0, 45, 94), (0, 49, 95), (1, 55, 96)]) (CL0 := zc_X6_snaps) (ns := [(10, 1, []), (15, 2, []), (46, 3, [])]) (AN := []) (fuel := 174) (pl := 1058) (by decide +kernel) (by decide +kernel) zd_X6_snaps (by
  intro K h
  rcases List.mem_cons.mp h with rfl | h
  · exact zq_186 hW
  rcases List.mem_cons.mp h with rfl | h
  · exact zq_187 hW
  rcases List.mem_cons.mp h with rfl | h
  · exact zq_189 hW
  rw [List.mem_singleton.mp h]
  exact zq_190 hW)
/-- X11_asks -/
def zK_215 : zk_K := (zt_mn 118, prog_1_method_21_code, 3, (Option.some Jvm.ClassFile.FieldType.int), 1, 11, [(2, 12, 0, 0), (0, 0, (-2147483648), 2147483647), (0, 0, (-2147483648), 2147483647)], [(some (0, 0, (-1), (-1)), []), (some (0, 0, (-2147483648), 2147483647), [(1, 2, 12), (1, 3, 2147483660), (1, 99, 12), (2, 1, 1), (2, 3, 2147483648), (2, 99, 1), (3, 1, 2147483647), (3, 2, 2147483647), (99, 1, 0), (99, 2, 0)])], [(6, 2, 0), (27, 1002, 0), (28, 1002, 0)], (3, 104, 0, 0))
theorem zq_215 {l : Launch} {w : zk_W} (hW : zh_W w) : zh_K l w zK_215 := zh_meth hW (lk := [(2, 30, 11, 3, 18), (2, 10, 11, 0, 18), (2, 135, 9, 18, 34)]) (KS := [zK_165, zK_185, zK_191, zK_214]) (km := [86, 90, 92, 119]) (lc := [(1, 292, 86), (0, 295, 90), (0, 299, 92), (0, 302, 119)]) (CL0 := zc_X11_asks) (ns := [(25, 1, []), (60, 2, []), (68, 3, [])]) (AN := []) (fuel := 154) (pl := 1054) (by decide +kernel) (by decide +kernel) zd_X11_asks (by
  intro K h
  rcases List.mem_cons.mp h with rfl | h
  · exact zq_165 hW
  rcases List.mem_cons.mp h with rfl | h
  · exact zq_185 hW
  rcases List.mem_cons.mp h with rfl | h
  · exact zq_191 hW
  rw [List.mem_singleton.mp h]
  exact zq_214 hW)
/-- X11_settled -/
def zK_216 : zk_K := (zt_mn 121, prog_1_method_53_code, 2, (Option.some Jvm.ClassFile.FieldType.int), 1, 11, [(2, 12, 0, 0), (0, 0, (-2147483648), 2147483647)], [(some (0, 0, (-1), (-1)), [(1, 2, 0), (1, 99, (-1)), (2, 1, 0), (99, 1, 1)]), (some (0, 0, (-2147483648), 2147483647), [(1, 2, 0), (2, 1, 0)])], [(12, 18, 0), (57, 1002, 0)], (1, 21, 0, 0))
theorem zq_216 {l : Launch} {w : zk_W} (hW : zh_W w) : zh_K l w zK_216 := zh_meth hW (lk := []) (KS := [zK_13, zK_14]) (km := [16, 17]) (lc := [(0, 111, 16), (0, 118, 17)]) (CL0 := zc_X11_settled) (ns := [(14, 1, [])]) (AN := []) (fuel := 90) (pl := 1066) (by decide +kernel) (by decide +kernel) zd_X11_settled (by
  intro K h
  rcases List.mem_cons.mp h with rfl | h
  · exact zq_13 hW
  rw [List.mem_singleton.mp h]
  exact zq_14 hW)
/-- X11_wind -/
def zK_217 : zk_K := (zt_mn 120, prog_1_method_22_code, 2, (Option.some Jvm.ClassFile.FieldType.int), 1, 11, [(2, 12, 0, 0), (0, 0, (-2147483648), 2147483647)], [(some (0, 0, (-1), (-1)), []), (some (0, 0, (-2147483648), 2147483647), [(1, 2, 2147483660), (1, 99, 12), (2, 1, 2147483647), (99, 1, 0)])], [(11, 2, 0), (53, 1002, 0), (54, 1001, 0), (11, 3, 0), (6, 2, 0), (27, 1002, 0), (28, 1002, 0), (2, 3, 0), (2, 4, 0), (2, 5, 0), (12, 18, 0), (57, 1002, 0)], (4, 128, 0, 0))
theorem zq_217 {l : Launch} {w : zk_W} (hW : zh_W w) : zh_K l w zK_217 := zh_meth hW (lk := []) (KS := [zK_194, zK_216]) (km := [85, 121]) (lc := [(0, 267, 85), (0, 305, 121)]) (CL0 := zc_X11_wind) (ns := [(6, 1, [])]) (AN := []) (fuel := 74) (pl := 1062) (by decide +kernel) (by decide +kernel) zd_X11_wind (by
  intro K h
  rcases List.mem_cons.mp h with rfl | h
  · exact zq_194 hW
  rw [List.mem_singleton.mp h]
  exact zq_216 hW)
/-- X11_key -/
def zK_218 : zk_K := (zt_mn 122, prog_1_method_24_code, 3, (Option.some Jvm.ClassFile.FieldType.int), 1, 11, [(2, 12, 0, 0), (0, 0, (-2147483648), 2147483647), (0, 0, (-2147483648), 2147483647)], [(some (0, 0, (-1), (-1)), []), (some (0, 0, (-3), 9), [(1, 2, 2147483646), (2, 1, 2147483657), (2, 3, 12), (2, 99, 9), (3, 2, 8), (99, 2, (-1))])], [(6, 2, 0), (27, 1002, 0), (28, 1002, 0), (11, 2, 0), (53, 1002, 0), (54, 1001, 0), (11, 3, 0), (18, 1002, 0), (12, 18, 0), (57, 1002, 0)], (4, 130, 0, 0))
theorem zq_218 {l : Launch} {w : zk_W} (hW : zh_W w) : zh_K l w zK_218 := zh_meth hW (lk := []) (KS := [zK_196, zK_216]) (km := [101, 121]) (lc := [(0, 270, 101), (0, 305, 121)]) (CL0 := zc_X11_key) (ns := [(7, 1, [])]) (AN := []) (fuel := 78) (pl := 1070) (by decide +kernel) (by decide +kernel) zd_X11_key (by
  intro K h
  rcases List.mem_cons.mp h with rfl | h
  · exact zq_196 hW
  rw [List.mem_singleton.mp h]
  exact zq_216 hW)
/-- X11_run -/
def zK_219 : zk_K := (zt_mn 123, prog_1_method_26_code, 1, (Option.some Jvm.ClassFile.FieldType.int), 1, 11, [(2, 12, 0, 0)], [(some (0, 0, (-1), (-1)), []), (some (0, 0, (-2147483648), 2147483647), [])], [(11, 2, 0), (53, 1002, 0), (54, 1001, 0), (11, 3, 0), (0, 1, 0), (0, 2, 0), (6, 2, 0), (27, 1002, 0), (14, 1002, 0), (28, 1002, 0), (15, 1001, 0), (16, 1002, 0), (19, 1001, 0), (2, 6, 0), (2, 5, 0), (17, 1002, 0), (18, 1002, 0), (12, 18, 0), (57, 1002, 0)], (6, 178, 0, 0))
theorem zq_219 {l : Launch} {w : zk_W} (hW : zh_W w) : zh_K l w zK_219 := zh_meth hW (lk := []) (KS := [zK_207, zK_216]) (km := [103, 121]) (lc := [(0, 273, 103), (0, 305, 121)]) (CL0 := zc_X11_run) (ns := [(5, 1, [])]) (AN := []) (fuel := 70) (pl := 1074) (by decide +kernel) (by decide +kernel) zd_X11_run (by
  intro K h
  rcases List.mem_cons.mp h with rfl | h
  · exact zq_207 hW
  rw [List.mem_singleton.mp h]
  exact zq_216 hW)
/-- X11_mend -/
def zK_220 : zk_K := (zt_mn 124, prog_1_method_28_code, 2, (Option.some Jvm.ClassFile.FieldType.int), 1, 11, [(2, 12, 0, 0), (0, 0, (-2147483648), 2147483647)], [(some (0, 0, (-1), (-1)), []), (some (0, 0, (-2147483648), 9999), [(1, 2, 2147493647), (1, 99, 9999), (2, 1, 9998), (99, 1, (-1))])], [(11, 2, 0), (53, 1002, 0), (54, 1001, 0), (11, 3, 0), (2, 3, 0), (2, 4, 0), (12, 18, 0), (57, 1002, 0)], (4, 128, 0, 0))
theorem zq_220 {l : Launch} {w : zk_W} (hW : zh_W w) : zh_K l w zK_220 := zh_meth hW (lk := []) (KS := [zK_208, zK_216]) (km := [114, 121]) (lc := [(0, 277, 114), (0, 305, 121)]) (CL0 := zc_X11_mend) (ns := [(6, 1, [])]) (AN := []) (fuel := 74) (pl := 1078) (by decide +kernel) (by decide +kernel) zd_X11_mend (by
  intro K h
  rcases List.mem_cons.mp h with rfl | h
  · exact zq_208 hW
  rw [List.mem_singleton.mp h]
  exact zq_216 hW)
/-- X2_takeFrom -/
def zK_221 : zk_K := (zt_mn 127, prog_4_method_4_code, 4, (Option.none : Option Jvm.ClassFile.FieldType), 1, 2, [(2, 2, 0, 0), (2, 54, 0, 0), (0, 0, 390, 390)], [(none, [])], [(17, 1001, 0), (18, 1001, 0), (19, 1001, 0), (2, 3, 0), (2, 4, 0), (2, 5, 0), (2, 6, 0)], (1, 60, 0, 0))
theorem zq_221 {l : Launch} {w : zk_W} (hW : zh_W w) : zh_K l w zK_221 := zh_meth hW (lk := [(2, 9, 2, 0, 18), (8, 28, 0, 0, 0), (2, 15, 2, 1, 18), (2, 18, 2, 2, 18), (2, 21, 2, 3, 0), (2, 34, 2, 4, 3), (2, 25, 2, 5, 0), (2, 38, 2, 6, 0)]) (KS := []) (km := []) (lc := []) (CL0 := zc_X2_takeFrom) (ns := []) (AN := []) (fuel := 338) (pl := 1090) (by decide +kernel) (by decide +kernel) zd_X2_takeFrom (fun K h => nomatch h)
/-- X2_takeFrom -/
def zK_222 : zk_K := (zt_mn 127, prog_4_method_4_code, 4, (Option.none : Option Jvm.ClassFile.FieldType), 1, 2, [(2, 2, 0, 0), (2, 54, 0, 0), (0, 0, 364, 364)], [(none, [])], [(17, 1001, 0), (18, 1001, 0), (19, 1001, 0), (2, 3, 0), (2, 4, 0), (2, 5, 0), (2, 6, 0)], (1, 60, 0, 0))
theorem zq_222 {l : Launch} {w : zk_W} (hW : zh_W w) : zh_K l w zK_222 := zh_meth hW (lk := [(2, 9, 2, 0, 18), (8, 28, 0, 0, 0), (2, 15, 2, 1, 18), (2, 18, 2, 2, 18), (2, 21, 2, 3, 0), (2, 34, 2, 4, 3), (2, 25, 2, 5, 0), (2, 38, 2, 6, 0)]) (KS := []) (km := []) (lc := []) (CL0 := zc_X2_takeFrom) (ns := []) (AN := []) (fuel := 338) (pl := 1090) (by decide +kernel) (by decide +kernel) zd_X2_takeFrom (fun K h => nomatch h)
/-- X2_takeFrom -/
def zK_223 : zk_K := (zt_mn 127, prog_4_method_4_code, 4, (Option.none : Option Jvm.ClassFile.FieldType), 1, 2, [(2, 2, 0, 0), (2, 54, 0, 0), (0, 0, 338, 338)], [(none, [])], [(17, 1001, 0), (18, 1001, 0), (19, 1001, 0), (2, 3, 0), (2, 4, 0), (2, 5, 0), (2, 6, 0)], (1, 60, 0, 0))
theorem zq_223 {l : Launch} {w : zk_W} (hW : zh_W w) : zh_K l w zK_223 := zh_meth hW (lk := [(2, 9, 2, 0, 18), (8, 28, 0, 0, 0), (2, 15, 2, 1, 18), (2, 18, 2, 2, 18), (2, 21, 2, 3, 0), (2, 34, 2, 4, 3), (2, 25, 2, 5, 0), (2, 38, 2, 6, 0)]) (KS := []) (km := []) (lc := []) (CL0 := zc_X2_takeFrom) (ns := []) (AN := []) (fuel := 338) (pl := 1090) (by decide +kernel) (by decide +kernel) zd_X2_takeFrom (fun K h => nomatch h)
/-- X2_takeFrom -/
def zK_224 : zk_K := (zt_mn 127, prog_4_method_4_code, 4, (Option.none : Option Jvm.ClassFile.FieldType), 1, 2, [(2, 2, 0, 0), (2, 54, 0, 0), (0, 0, 312, 312)], [(none, [])], [(17, 1001, 0), (18, 1001, 0), (19, 1001, 0), (2, 3, 0), (2, 4, 0), (2, 5, 0), (2, 6, 0)], (1, 60, 0, 0))
theorem zq_224 {l : Launch} {w : zk_W} (hW : zh_W w) : zh_K l w zK_224 := zh_meth hW (lk := [(2, 9, 2, 0, 18), (8, 28, 0, 0, 0), (2, 15, 2, 1, 18), (2, 18, 2, 2, 18), (2, 21, 2, 3, 0), (2, 34, 2, 4, 3), (2, 25, 2, 5, 0), (2, 38, 2, 6, 0)]) (KS := []) (km := []) (lc := []) (CL0 := zc_X2_takeFrom) (ns := []) (AN := []) (fuel := 338) (pl := 1090) (by decide +kernel) (by decide +kernel) zd_X2_takeFrom (fun K h => nomatch h)
/-- X2_takeFrom -/
def zK_225 : zk_K := (zt_mn 127, prog_4_method_4_code, 4, (Option.none : Option Jvm.ClassFile.FieldType), 1, 2, [(2, 2, 0, 0), (2, 54, 0, 0), (0, 0, 286, 286)], [(none, [])], [(17, 1001, 0), (18, 1001, 0), (19, 1001, 0), (2, 3, 0), (2, 4, 0), (2, 5, 0), (2, 6, 0)], (1, 60, 0, 0))
theorem zq_225 {l : Launch} {w : zk_W} (hW : zh_W w) : zh_K l w zK_225 := zh_meth hW (lk := [(2, 9, 2, 0, 18), (8, 28, 0, 0, 0), (2, 15, 2, 1, 18), (2, 18, 2, 2, 18), (2, 21, 2, 3, 0), (2, 34, 2, 4, 3), (2, 25, 2, 5, 0), (2, 38, 2, 6, 0)]) (KS := []) (km := []) (lc := []) (CL0 := zc_X2_takeFrom) (ns := []) (AN := []) (fuel := 338) (pl := 1090) (by decide +kernel) (by decide +kernel) zd_X2_takeFrom (fun K h => nomatch h)
/-- X2_takeFrom -/
def zK_226 : zk_K := (zt_mn 127, prog_4_method_4_code, 4, (Option.none : Option Jvm.ClassFile.FieldType), 1, 2, [(2, 2, 0, 0), (2, 54, 0, 0), (0, 0, 260, 260)], [(none, [])], [(17, 1001, 0), (18, 1001, 0), (19, 1001, 0), (2, 3, 0), (2, 4, 0), (2, 5, 0), (2, 6, 0)], (1, 60, 0, 0))
theorem zq_226 {l : Launch} {w : zk_W} (hW : zh_W w) : zh_K l w zK_226 := zh_meth hW (lk := [(2, 9, 2, 0, 18), (8, 28, 0, 0, 0), (2, 15, 2, 1, 18), (2, 18, 2, 2, 18), (2, 21, 2, 3, 0), (2, 34, 2, 4, 3), (2, 25, 2, 5, 0), (2, 38, 2, 6, 0)]) (KS := []) (km := []) (lc := []) (CL0 := zc_X2_takeFrom) (ns := []) (AN := []) (fuel := 338) (pl := 1090) (by decide +kernel) (by decide +kernel) zd_X2_takeFrom (fun K h => nomatch h)
/-- X2_takeFrom -/
def zK_227 : zk_K := (zt_mn 127, prog_4_method_4_code, 4, (Option.none : Option Jvm.ClassFile.FieldType), 1, 2, [(2, 2, 0, 0), (2, 54, 0, 0), (0, 0, 234, 234)], [(none, [])], [(17, 1001, 0), (18, 1001, 0), (19, 1001, 0), (2, 3, 0), (2, 4, 0), (2, 5, 0), (2, 6, 0)], (1, 60, 0, 0))
theorem zq_227 {l : Launch} {w : zk_W} (hW : zh_W w) : zh_K l w zK_227 := zh_meth hW (lk := [(2, 9, 2, 0, 18), (8, 28, 0, 0, 0), (2, 15, 2, 1, 18), (2, 18, 2, 2, 18), (2, 21, 2, 3, 0), (2, 34, 2, 4, 3), (2, 25, 2, 5, 0), (2, 38, 2, 6, 0)]) (KS := []) (km := []) (lc := []) (CL0 := zc_X2_takeFrom) (ns := []) (AN := []) (fuel := 338) (pl := 1090) (by decide +kernel) (by decide +kernel) zd_X2_takeFrom (fun K h => nomatch h)
/-- X2_takeFrom -/
def zK_228 : zk_K := (zt_mn 127, prog_4_method_4_code, 4, (Option.none : Option Jvm.ClassFile.FieldType), 1, 2, [(2, 2, 0, 0), (2, 54, 0, 0), (0, 0, 208, 208)], [(none, [])], [(17, 1001, 0), (18, 1001, 0), (19, 1001, 0), (2, 3, 0), (2, 4, 0), (2, 5, 0), (2, 6, 0)], (1, 60, 0, 0))
theorem zq_228 {l : Launch} {w : zk_W} (hW : zh_W w) : zh_K l w zK_228 := zh_meth hW (lk := [(2, 9, 2, 0, 18), (8, 28, 0, 0, 0), (2, 15, 2, 1, 18), (2, 18, 2, 2, 18), (2, 21, 2, 3, 0), (2, 34, 2, 4, 3), (2, 25, 2, 5, 0), (2, 38, 2, 6, 0)]) (KS := []) (km := []) (lc := []) (CL0 := zc_X2_takeFrom) (ns := []) (AN := []) (fuel := 338) (pl := 1090) (by decide +kernel) (by decide +kernel) zd_X2_takeFrom (fun K h => nomatch h)
/-- X2_takeFrom -/
def zK_229 : zk_K := (zt_mn 127, prog_4_method_4_code, 4, (Option.none : Option Jvm.ClassFile.FieldType), 1, 2, [(2, 2, 0, 0), (2, 54, 0, 0), (0, 0, 182, 182)], [(none, [])], [(17, 1001, 0), (18, 1001, 0), (19, 1001, 0), (2, 3, 0), (2, 4, 0), (2, 5, 0), (2, 6, 0)], (1, 60, 0, 0))
theorem zq_229 {l : Launch} {w : zk_W} (hW : zh_W w) : zh_K l w zK_229 := zh_meth hW (lk := [(2, 9, 2, 0, 18), (8, 28, 0, 0, 0), (2, 15, 2, 1, 18), (2, 18, 2, 2, 18), (2, 21, 2, 3, 0), (2, 34, 2, 4, 3), (2, 25, 2, 5, 0), (2, 38, 2, 6, 0)]) (KS := []) (km := []) (lc := []) (CL0 := zc_X2_takeFrom) (ns := []) (AN := []) (fuel := 338) (pl := 1090) (by decide +kernel) (by decide +kernel) zd_X2_takeFrom (fun K h => nomatch h)
/-- X2_takeFrom -/
def zK_230 : zk_K := (zt_mn 127, prog_4_method_4_code, 4, (Option.none : Option Jvm.ClassFile.FieldType), 1, 2, [(2, 2, 0, 0), (2, 54, 0, 0), (0, 0, 156, 156)], [(none, [])], [(17, 1001, 0), (18, 1001, 0), (19, 1001, 0), (2, 3, 0), (2, 4, 0), (2, 5, 0), (2, 6, 0)], (1, 60, 0, 0))
theorem zq_230 {l : Launch} {w : zk_W} (hW : zh_W w) : zh_K l w zK_230 := zh_meth hW (lk := [(2, 9, 2, 0, 18), (8, 28, 0, 0, 0), (2, 15, 2, 1, 18), (2, 18, 2, 2, 18), (2, 21, 2, 3, 0), (2, 34, 2, 4, 3), (2, 25, 2, 5, 0), (2, 38, 2, 6, 0)]) (KS := []) (km := []) (lc := []) (CL0 := zc_X2_takeFrom) (ns := []) (AN := []) (fuel := 338) (pl := 1090) (by decide +kernel) (by decide +kernel) zd_X2_takeFrom (fun K h => nomatch h)
/-- X2_takeFrom -/
def zK_231 : zk_K := (zt_mn 127, prog_4_method_4_code, 4, (Option.none : Option Jvm.ClassFile.FieldType), 1, 2, [(2, 2, 0, 0), (2, 54, 0, 0), (0, 0, 130, 130)], [(none, [])], [(17, 1001, 0), (18, 1001, 0), (19, 1001, 0), (2, 3, 0), (2, 4, 0), (2, 5, 0), (2, 6, 0)], (1, 60, 0, 0))
theorem zq_231 {l : Launch} {w : zk_W} (hW : zh_W w) : zh_K l w zK_231 := zh_meth hW (lk := [(2, 9, 2, 0, 18), (8, 28, 0, 0, 0), (2, 15, 2, 1, 18), (2, 18, 2, 2, 18), (2, 21, 2, 3, 0), (2, 34, 2, 4, 3), (2, 25, 2, 5, 0), (2, 38, 2, 6, 0)]) (KS := []) (km := []) (lc := []) (CL0 := zc_X2_takeFrom) (ns := []) (AN := []) (fuel := 338) (pl := 1090) (by decide +kernel) (by decide +kernel) zd_X2_takeFrom (fun K h => nomatch h)
/-- X2_takeFrom -/
def zK_232 : zk_K := (zt_mn 127, prog_4_method_4_code, 4, (Option.none : Option Jvm.ClassFile.FieldType), 1, 2, [(2, 2, 0, 0), (2, 54, 0, 0), (0, 0, 104, 104)], [(none, [])], [(17, 1001, 0), (18, 1001, 0), (19, 1001, 0), (2, 3, 0), (2, 4, 0), (2, 5, 0), (2, 6, 0)], (1, 60, 0, 0))
theorem zq_232 {l : Launch} {w : zk_W} (hW : zh_W w) : zh_K l w zK_232 := zh_meth hW (lk := [(2, 9, 2, 0, 18), (8, 28, 0, 0, 0), (2, 15, 2, 1, 18), (2, 18, 2, 2, 18), (2, 21, 2, 3, 0), (2, 34, 2, 4, 3), (2, 25, 2, 5, 0), (2, 38, 2, 6, 0)]) (KS := []) (km := []) (lc := []) (CL0 := zc_X2_takeFrom) (ns := []) (AN := []) (fuel := 338) (pl := 1090) (by decide +kernel) (by decide +kernel) zd_X2_takeFrom (fun K h => nomatch h)
/-- X2_takeFrom -/
def zK_233 : zk_K := (zt_mn 127, prog_4_method_4_code, 4, (Option.none : Option Jvm.ClassFile.FieldType), 1, 2, [(2, 2, 0, 0), (2, 54, 0, 0), (0, 0, 78, 78)], [(none, [])], [(17, 1001, 0), (18, 1001, 0), (19, 1001, 0), (2, 3, 0), (2, 4, 0), (2, 5, 0), (2, 6, 0)], (1, 60, 0, 0))
theorem zq_233 {l : Launch} {w : zk_W} (hW : zh_W w) : zh_K l w zK_233 := zh_meth hW (lk := [(2, 9, 2, 0, 18), (8, 28, 0, 0, 0), (2, 15, 2, 1, 18), (2, 18, 2, 2, 18), (2, 21, 2, 3, 0), (2, 34, 2, 4, 3), (2, 25, 2, 5, 0), (2, 38, 2, 6, 0)]) (KS := []) (km := []) (lc := []) (CL0 := zc_X2_takeFrom) (ns := []) (AN := []) (fuel := 338) (pl := 1090) (by decide +kernel) (by decide +kernel) zd_X2_takeFrom (fun K h => nomatch h)
/-- X2_takeFrom -/
def zK_234 : zk_K := (zt_mn 127, prog_4_method_4_code, 4, (Option.none : Option Jvm.ClassFile.FieldType), 1, 2, [(2, 2, 0, 0), (2, 54, 0, 0), (0, 0, 52, 52)], [(none, [])], [(17, 1001, 0), (18, 1001, 0), (19, 1001, 0), (2, 3, 0), (2, 4, 0), (2, 5, 0), (2, 6, 0)], (1, 60, 0, 0))
theorem zq_234 {l : Launch} {w : zk_W} (hW : zh_W w) : zh_K l w zK_234 := zh_meth hW (lk := [(2, 9, 2, 0, 18), (8, 28, 0, 0, 0), (2, 15, 2, 1, 18), (2, 18, 2, 2, 18), (2, 21, 2, 3, 0), (2, 34, 2, 4, 3), (2, 25, 2, 5, 0), (2, 38, 2, 6, 0)]) (KS := []) (km := []) (lc := []) (CL0 := zc_X2_takeFrom) (ns := []) (AN := []) (fuel := 338) (pl := 1090) (by decide +kernel) (by decide +kernel) zd_X2_takeFrom (fun K h => nomatch h)
/-- X2_takeFrom -/
def zK_235 : zk_K := (zt_mn 127, prog_4_method_4_code, 4, (Option.none : Option Jvm.ClassFile.FieldType), 1, 2, [(2, 2, 0, 0), (2, 54, 0, 0), (0, 0, 26, 26)], [(none, [])], [(17, 1001, 0), (18, 1001, 0), (19, 1001, 0), (2, 3, 0), (2, 4, 0), (2, 5, 0), (2, 6, 0)], (1, 60, 0, 0))
theorem zq_235 {l : Launch} {w : zk_W} (hW : zh_W w) : zh_K l w zK_235 := zh_meth hW (lk := [(2, 9, 2, 0, 18), (8, 28, 0, 0, 0), (2, 15, 2, 1, 18), (2, 18, 2, 2, 18), (2, 21, 2, 3, 0), (2, 34, 2, 4, 3), (2, 25, 2, 5, 0), (2, 38, 2, 6, 0)]) (KS := []) (km := []) (lc := []) (CL0 := zc_X2_takeFrom) (ns := []) (AN := []) (fuel := 338) (pl := 1090) (by decide +kernel) (by decide +kernel) zd_X2_takeFrom (fun K h => nomatch h)
