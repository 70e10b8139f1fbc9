/-! part 68: contracts of the class, by the checker -/
/-- X2_takeFrom -/
def zK_236 : zk_K := (zt_mn 127, prog_4_method_4_code, 4, (Option.none : Option Jvm.ClassFile.FieldType), 1, 2, [(2, 2, 0, 0), (2, 54, 0, 0), (0, 0, 0, 0)], [(none, [])], [(17, 1001, 0), (18, 1001, 0), (19, 1001, 0), (2, 3, 0), (2, 4, 0), (2, 5, 0), (2, 6, 0)], (1, 60, 0, 0))
theorem zq_236 {l : Launch} {w : zk_W} (hW : zh_W w) : zh_K l w zK_236 := zh_meth hW (lk := [(2, 9, 2, 0, 18), (8, 28, 0, 0, 0), (2, 15, 2, 1, 18), (2, 18, 2, 2, 18), (2, 21, 2, 3, 0), (2, 34, 2, 4, 3), (2, 25, 2, 5, 0), (2, 38, 2, 6, 0)]) (KS := []) (km := []) (lc := []) (CL0 := zc_X2_takeFrom) (ns := []) (AN := []) (fuel := 338) (pl := 1090) (by decide +kernel) (by decide +kernel) zd_X2_takeFrom (fun K h => nomatch h)
/-- X10_takeBack -/
def zK_237 : zk_K := (zt_mn 126, prog_12_method_4_code, 3, (Option.some Jvm.ClassFile.FieldType.int), 1, 10, [(2, 11, 0, 0), (2, 2, 0, 0)], [(some (0, 0, (-1), (-1)), []), (some (0, 0, (-2147483648), 2147483647), [])], [(11, 3, 0), (17, 1001, 0), (18, 1001, 0), (19, 1001, 0), (2, 3, 0), (2, 4, 0), (2, 5, 0), (2, 6, 0)], (2, 83, 0, 0))
theorem zq_237 {l : Launch} {w : zk_W} (hW : zh_W w) : zh_K l w zK_237 := zh_meth hW (lk := [(2, 20, 10, 3, 0), (2, 24, 10, 2, 0), (2, 17, 10, 1, 18), (2, 11, 10, 0, 18)]) (KS := [zK_221, zK_222, zK_223, zK_224, zK_225, zK_226, zK_227, zK_228, zK_229, zK_230, zK_231, zK_232, zK_233, zK_234, zK_235, zK_236]) (km := [127, 127, 127, 127, 127, 127, 127, 127, 127, 127, 127, 127, 127, 127, 127, 127]) (lc := [(0, 31, 127)]) (CL0 := zc_X10_takeBack) (ns := [(4, 1, []), (38, 0, [(0, 0, 16)]), (41, 0, [(1, 0, 1001), (2, 0, 1001), (3, 0, 1001), (4, 0, 1001), (5, 0, 1001), (6, 0, 1001), (7, 0, 1001), (8, 0, 1001), (9, 0, 1001), (10, 0, 1001), (11, 0, 1001), (12, 0, 1001), (13, 0, 1001), (14, 0, 1001), (15, 0, 1001)])]) (AN := []) (fuel := 174) (pl := 1086) (by decide +kernel) (by decide +kernel) zd_X10_takeBack (by
  intro K h
  rcases List.mem_cons.mp h with rfl | h
  · exact zq_221 hW
  rcases List.mem_cons.mp h with rfl | h
  · exact zq_222 hW
  rcases List.mem_cons.mp h with rfl | h
  · exact zq_223 hW
  rcases List.mem_cons.mp h with rfl | h
  · exact zq_224 hW
  rcases List.mem_cons.mp h with rfl | h
  · exact zq_225 hW
  rcases List.mem_cons.mp h with rfl | h
  · exact zq_226 hW
  rcases List.mem_cons.mp h with rfl | h
  · exact zq_227 hW
  rcases List.mem_cons.mp h with rfl | h
  · exact zq_228 hW
  rcases List.mem_cons.mp h with rfl | h
  · exact zq_229 hW
  rcases List.mem_cons.mp h with rfl | h
  · exact zq_230 hW
  rcases List.mem_cons.mp h with rfl | h
  · exact zq_231 hW
  rcases List.mem_cons.mp h with rfl | h
  · exact zq_232 hW
  rcases List.mem_cons.mp h with rfl | h
  · exact zq_233 hW
  rcases List.mem_cons.mp h with rfl | h
  · exact zq_234 hW
  rcases List.mem_cons.mp h with rfl | h
  · exact zq_235 hW
  rw [List.mem_singleton.mp h]
  exact zq_236 hW)
/-- X11_undo -/
def zK_238 : zk_K := (zt_mn 125, prog_1_method_30_code, 2, (Option.some Jvm.ClassFile.FieldType.int), 1, 11, [(2, 12, 0, 0)], [(some (0, 0, (-2147483648), 2147483647), [])], [(11, 3, 0), (17, 1001, 0), (18, 1001, 0), (19, 1001, 0), (2, 3, 0), (2, 4, 0), (2, 5, 0), (2, 6, 0), (12, 18, 0), (57, 1002, 0)], (3, 105, 0, 0))
theorem zq_238 {l : Launch} {w : zk_W} (hW : zh_W w) : zh_K l w zK_238 := zh_meth hW (lk := [(2, 23, 11, 2, 18), (2, 10, 11, 0, 18), (2, 135, 9, 18, 34)]) (KS := [zK_237, zK_13, zK_14]) (km := [126, 16, 17]) (lc := [(0, 338, 126), (0, 111, 16), (0, 118, 17)]) (CL0 := zc_X11_undo) (ns := [(23, 1, []), (31, 2, [])]) (AN := []) (fuel := 122) (pl := 1082) (by decide +kernel) (by decide +kernel) zd_X11_undo (by
  intro K h
  rcases List.mem_cons.mp h with rfl | h
  · exact zq_237 hW
  rcases List.mem_cons.mp h with rfl | h
  · exact zq_13 hW
  rw [List.mem_singleton.mp h]
  exact zq_14 hW)
/-- X0_speed -/
def zK_239 : zk_K := (zt_mn 129, prog_2_method_8_code, 3, (Option.some Jvm.ClassFile.FieldType.int), 1, 0, [(2, 0, 0, 0), (0, 0, (-2147483648), 2147483647), (0, 0, (-2147483648), 2147483647)], [(some (0, 0, 0, 2147483647), [(3, 1, 2147483648), (3, 2, 2147483648)])], [(27, 1002, 0), (28, 1002, 0)], (3, 109, 0, 0))
theorem zq_239 {l : Launch} {w : zk_W} (hW : zh_W w) : zh_K l w zK_239 := zh_meth hW (lk := [(2, 25, 0, 1, 2), (2, 21, 0, 0, 18), (2, 9, 0, 3, 18), (2, 35, 0, 2, 2), (2, 93, 2, 0, 34), (2, 96, 2, 1, 34)]) (KS := [zK_12, zK_19, zK_202]) (km := [15, 22, 111]) (lc := [(4, 122, 15), (0, 126, 22), (0, 99, 111)]) (CL0 := zc_X0_speed) (ns := [(15, 1, []), (53, 2, [])]) (AN := []) (fuel := 178) (pl := 1099) (by decide +kernel) (by decide +kernel) zd_X0_speed (by
  intro K h
  rcases List.mem_cons.mp h with rfl | h
  · exact zq_12 hW
  rcases List.mem_cons.mp h with rfl | h
  · exact zq_19 hW
  rw [List.mem_singleton.mp h]
  exact zq_202 hW)
/-- X11_hour -/
def zK_240 : zk_K := (zt_mn 128, prog_1_method_31_code, 4, (Option.some Jvm.ClassFile.FieldType.int), 1, 11, [(2, 12, 0, 0), (0, 0, (-2147483648), 2147483647), (0, 0, (-2147483648), 2147483647), (0, 0, (-2147483648), 2147483647)], [(some (0, 0, (-1), (-1)), []), (some (0, 0, (-2147483648), 2147483647), [(1, 2, 12), (1, 3, 2147483660), (1, 4, 2147483660), (1, 99, 12), (2, 1, 23), (2, 3, 2147483671), (2, 4, 2147483671), (2, 99, 23), (3, 1, 2147483647), (3, 2, 2147483647), (3, 4, 2147483648), (4, 1, 2147483647), (4, 2, 2147483647), (99, 1, 0), (99, 2, 0)])], [(0, 1, 0), (0, 2, 0), (6, 2, 0), (27, 1002, 0), (14, 1002, 0), (28, 1002, 0), (15, 1001, 0), (16, 1002, 0)], (4, 131, 0, 0))
theorem zq_240 {l : Launch} {w : zk_W} (hW : zh_W w) : zh_K l w zK_240 := zh_meth hW (lk := [(2, 10, 11, 0, 18), (2, 39, 11, 4, 18), (2, 135, 9, 18, 34), (2, 344, 0, 3, 34)]) (KS := [zK_165, zK_12, zK_19, zK_199, zK_239]) (km := [86, 15, 22, 105, 129]) (lc := [(1, 292, 86), (1, 107, 15), (0, 131, 22), (0, 341, 105), (0, 347, 129)]) (CL0 := zc_X11_hour) (ns := [(11, 1, []), (30, 2, []), (54, 3, []), (81, 4, [])]) (AN := []) (fuel := 234) (pl := 1094) (by decide +kernel) (by decide +kernel) zd_X11_hour (by
  intro K h
  rcases List.mem_cons.mp h with rfl | h
  · exact zq_165 hW
  rcases List.mem_cons.mp h with rfl | h
  · exact zq_12 hW
  rcases List.mem_cons.mp h with rfl | h
  · exact zq_19 hW
  rcases List.mem_cons.mp h with rfl | h
  · exact zq_199 hW
  rw [List.mem_singleton.mp h]
  exact zq_239 hW)
/-- X0_pass -/
def zK_241 : zk_K := (zt_mn 131, prog_2_method_3_code, 5, (Option.none : Option Jvm.ClassFile.FieldType), 1, 0, [(2, 0, 0, 0), (2, 10, 0, 0), (2, 2, 0, 0), (0, 0, (-2147483648), 2147483647)], [(none, [])], [(0, 1, 0), (0, 2, 0), (6, 2, 0), (27, 1002, 0), (14, 1002, 0), (28, 1002, 0), (15, 1001, 0), (16, 1002, 0)], (4, 133, 0, 0))
theorem zq_241 {l : Launch} {w : zk_W} (hW : zh_W w) : zh_K l w zK_241 := zh_meth hW (lk := []) (KS := [zK_199, zK_203]) (km := [105, 108]) (lc := [(0, 66, 105), (0, 69, 108)]) (CL0 := zc_X0_pass) (ns := [(20, 1, [])]) (AN := [(10, ([(0, 0, 0, 0), (1, 0, 0, 0), (2, 0, (-1), (-1)), (2, 0, 0, 0), (2, 10, 0, 0), (2, 2, 0, 0), (0, 0, (-2147483648), 2147483647), (0, 0, 0, 24)], [], [], [], [(4, (7, 0)), (0, (3, 0))], [(0, 3), (1, 4), (2, 5), (3, 6)], []), [], 0, 0, (24, [((-1), 7)]))]) (fuel := 114) (pl := 1109) (by decide +kernel) (by decide +kernel) zd_X0_pass (by
  intro K h
  rcases List.mem_cons.mp h with rfl | h
  · exact zq_199 hW
  rw [List.mem_singleton.mp h]
  exact zq_203 hW)
/-- X11_ends -/
def zK_242 : zk_K := (zt_mn 130, prog_1_method_32_code, 4, (Option.some Jvm.ClassFile.FieldType.int), 1, 11, [(2, 12, 0, 0), (0, 0, (-2147483648), 2147483647), (0, 0, (-2147483648), 2147483647), (0, 0, (-2147483648), 2147483647)], [(some (0, 0, (-1), (-1)), []), (some (0, 0, (-2147483648), 2147483647), [(1, 2, 12), (1, 3, 12), (1, 4, 2147483660), (1, 99, 12), (2, 1, 9), (2, 3, 9), (2, 4, 2147483657), (2, 99, 9), (3, 1, 1), (3, 2, 1), (3, 4, 2147483649), (3, 99, 1), (4, 1, 2147483647), (4, 2, 2147483647), (4, 3, 2147483647), (99, 1, 0), (99, 2, 0), (99, 3, 0)])], [(0, 1, 0), (0, 2, 0), (6, 2, 0), (27, 1002, 0), (14, 1002, 0), (28, 1002, 0), (15, 1001, 0), (16, 1002, 0)], (5, 157, 0, 0))
theorem zq_242 {l : Launch} {w : zk_W} (hW : zh_W w) : zh_K l w zK_242 := zh_meth hW (lk := [(2, 10, 11, 0, 18), (2, 39, 11, 4, 18), (2, 135, 9, 18, 34), (2, 353, 0, 5, 34), (2, 356, 0, 4, 34)]) (KS := [zK_165, zK_21, zK_12, zK_241]) (km := [86, 26, 15, 131]) (lc := [(1, 292, 86), (0, 150, 26), (1, 107, 15), (0, 350, 131)]) (CL0 := zc_X11_ends) (ns := [(12, 1, []), (21, 2, []), (45, 3, [])]) (AN := []) (fuel := 202) (pl := 1105) (by decide +kernel) (by decide +kernel) zd_X11_ends (by
  intro K h
  rcases List.mem_cons.mp h with rfl | h
  · exact zq_165 hW
  rcases List.mem_cons.mp h with rfl | h
  · exact zq_21 hW
  rcases List.mem_cons.mp h with rfl | h
  · exact zq_12 hW
  rw [List.mem_singleton.mp h]
  exact zq_241 hW)
/-- X0_standsFrom -/
def zK_243 : zk_K := (zt_mn 133, prog_2_method_9_code, 3, (Option.some Jvm.ClassFile.FieldType.int), 1, 0, [(2, 0, 0, 0)], [(some (0, 0, 0, 24), [])], [(27, 1002, 0), (28, 1002, 0)], (4, 131, 0, 0))
theorem zq_243 {l : Launch} {w : zk_W} (hW : zh_W w) : zh_K l w zK_243 := zh_meth hW (lk := [(2, 25, 0, 1, 2), (2, 87, 9, 1, 0)]) (KS := [zK_239]) (km := [129]) (lc := [(0, 129, 129)]) (CL0 := zc_X0_standsFrom) (ns := []) (AN := [(3, ([(0, 0, 0, 0), (1, 0, 0, 0), (2, 0, (-1), (-1)), (2, 0, 0, 0), (0, 0, (-1), 23)], [], [], [], [(1, (4, 0)), (0, (3, 0))], [(0, 3)], []), [], 0, 0, (26, [(26, 4)])),
  (9, ([(0, 0, 0, 0), (1, 0, 0, 0), (2, 0, (-1), (-1)), (2, 0, 0, 0), (0, 0, 0, 12), (0, 0, 0, 23)], [], [], [], [(2, (4, 0)), (1, (5, 0)), (0, (3, 0))], [(0, 3)], []), [], 0, 0, (13, [((-1), 4), (26, 5)]))]) (fuel := 154) (pl := 1117) (by decide +kernel) (by decide +kernel) zd_X0_standsFrom (by
  intro K h
  rw [List.mem_singleton.mp h]
  exact zq_239 hW)
/-- X0_isInTime -/
def zK_244 : zk_K := (zt_mn 135, prog_2_method_11_code, 2, (Option.some Jvm.ClassFile.FieldType.boolean), 1, 0, [(2, 0, 0, 0), (0, 0, (-2147483648), 2147483647)], [(some (0, 0, 0, 0), []), (some (0, 0, 1, 1), [(1, 2, 8), (1, 99, 9), (2, 1, 1), (99, 1, 0)])], [], (1, 21, 0, 0))
theorem zq_244 {l : Launch} {w : zk_W} (hW : zh_W w) : zh_K l w zK_244 := zh_meth hW (lk := [(2, 18, 0, 5, 18), (2, 25, 0, 1, 2), (2, 132, 9, 6, 34)]) (KS := [zK_205]) (km := [113]) (lc := [(0, 83, 113)]) (CL0 := zc_X0_isInTime) (ns := []) (AN := []) (fuel := 122) (pl := 1126) (by decide +kernel) (by decide +kernel) zd_X0_isInTime (by
  intro K h
  rw [List.mem_singleton.mp h]
  exact zq_205 hW)
/-- X0_worthInTime -/
def zK_245 : zk_K := (zt_mn 134, prog_2_method_13_code, 3, (Option.some Jvm.ClassFile.FieldType.int), 1, 0, [(2, 0, 0, 0)], [(some (0, 0, (-2147483648), 2147483647), [])], [], (2, 42, 0, 0))
theorem zq_245 {l : Launch} {w : zk_W} (hW : zh_W w) : zh_K l w zK_245 := zh_meth hW (lk := [(2, 25, 0, 1, 2), (2, 80, 9, 3, 0), (2, 138, 9, 7, 34)]) (KS := [zK_244]) (km := [135]) (lc := [(0, 135, 135)]) (CL0 := zc_X0_worthInTime) (ns := []) (AN := [(4, ([(0, 0, 0, 0), (1, 0, 0, 0), (2, 0, (-1), (-1)), (2, 0, 0, 0), (0, 0, 0, 10), (0, 0, (-2147483648), 2147483647)], [], [], [], [(2, (4, 0)), (1, (5, 0)), (0, (3, 0))], [(0, 3)], []), [], 0, 0, (10, [((-1), 4)]))]) (fuel := 162) (pl := 1122) (by decide +kernel) (by decide +kernel) zd_X0_worthInTime (by
  intro K h
  rw [List.mem_singleton.mp h]
  exact zq_244 hW)
/-- X0_leftInTheMiddle -/
def zK_246 : zk_K := (zt_mn 136, prog_2_method_14_code, 3, (Option.some Jvm.ClassFile.FieldType.int), 1, 0, [(2, 0, 0, 0)], [(some (0, 0, (-2147483648), 2147483647), [])], [], (0, 0, 0, 0))
theorem zq_246 {l : Launch} {w : zk_W} (hW : zh_W w) : zh_K l w zK_246 := zh_meth hW (lk := [(2, 25, 0, 1, 2), (2, 80, 9, 3, 0), (2, 15, 0, 4, 18), (2, 103, 9, 5, 34)]) (KS := []) (km := []) (lc := []) (CL0 := zc_X0_leftInTheMiddle) (ns := []) (AN := [(4, ([(0, 0, 0, 0), (1, 0, 0, 0), (2, 0, (-1), (-1)), (2, 0, 0, 0), (0, 0, 0, 10), (0, 0, (-2147483648), 2147483647)], [], [], [], [(2, (4, 0)), (1, (5, 0)), (0, (3, 0))], [(0, 3)], []), [], 0, 0, (10, [((-1), 4)]))]) (fuel := 198) (pl := 1130) (by decide +kernel) (by decide +kernel) zd_X0_leftInTheMiddle (fun K h => nomatch h)
/-- X11_day -/
def zK_247 : zk_K := (zt_mn 132, prog_1_method_33_code, 3, (Option.some Jvm.ClassFile.FieldType.int), 1, 11, [(2, 12, 0, 0), (0, 0, (-2147483648), 2147483647), (0, 0, (-2147483648), 2147483647)], [(some (0, 0, (-1), (-1)), []), (some (0, 0, (-2147483648), 2147483647), [(1, 2, 12), (1, 3, 2147483660), (1, 99, 12), (2, 1, 2), (2, 3, 2147483650), (2, 99, 2), (3, 1, 2147483647), (3, 2, 2147483646), (99, 1, 0), (99, 2, 0)])], [(0, 1, 0), (0, 2, 0), (6, 2, 0), (27, 1002, 0), (14, 1002, 0), (28, 1002, 0), (15, 1001, 0), (16, 1002, 0)], (5, 157, 0, 0))
theorem zq_247 {l : Launch} {w : zk_W} (hW : zh_W w) : zh_K l w zK_247 := zh_meth hW (lk := [(2, 39, 11, 4, 18), (2, 10, 11, 0, 18), (2, 135, 9, 18, 34)]) (KS := [zK_165, zK_199, zK_243, zK_241, zK_245, zK_246]) (km := [86, 105, 133, 131, 134, 136]) (lc := [(1, 292, 86), (0, 341, 105), (0, 357, 133), (0, 350, 131), (0, 360, 134), (0, 363, 136)]) (CL0 := zc_X11_day) (ns := [(52, 1, []), (59, 2, []), (79, 3, []), (86, 4, []), (106, 3, []), (113, 5, [])]) (AN := []) (fuel := 242) (pl := 1113) (by decide +kernel) (by decide +kernel) zd_X11_day (by
  intro K h
  rcases List.mem_cons.mp h with rfl | h
  · exact zq_165 hW
  rcases List.mem_cons.mp h with rfl | h
  · exact zq_199 hW
  rcases List.mem_cons.mp h with rfl | h
  · exact zq_243 hW
  rcases List.mem_cons.mp h with rfl | h
  · exact zq_241 hW
  rcases List.mem_cons.mp h with rfl | h
  · exact zq_245 hW
  rw [List.mem_singleton.mp h]
  exact zq_246 hW)
/-- X0_areInTime -/
def zK_248 : zk_K := (zt_mn 138, prog_2_method_12_code, 3, (Option.some Jvm.ClassFile.FieldType.boolean), 1, 0, [(2, 0, 0, 0), (0, 0, (-2147483648), 2147483647)], [(some (0, 0, 0, 0), []), (some (0, 0, 1, 1), [])], [], (2, 42, 0, 0))
theorem zq_248 {l : Launch} {w : zk_W} (hW : zh_W w) : zh_K l w zK_248 := zh_meth hW (lk := [(2, 25, 0, 1, 2), (2, 80, 9, 3, 0)]) (KS := [zK_244]) (km := [135]) (lc := [(0, 135, 135)]) (CL0 := zc_X0_areInTime) (ns := []) (AN := [(2, ([(0, 0, 0, 0), (1, 0, 0, 0), (2, 0, (-1), (-1)), (2, 0, 0, 0), (0, 0, (-2147483648), 2147483647), (0, 0, 0, 12)], [], [], [], [(2, (5, 0)), (0, (3, 0)), (1, (4, 0))], [(0, 3), (1, 4)], []), [], 0, 0, (12, [((-1), 5)]))]) (fuel := 146) (pl := 1138) (by decide +kernel) (by decide +kernel) zd_X0_areInTime (by
  intro K h
  rw [List.mem_singleton.mp h]
  exact zq_244 hW)
/-- X11_least -/
def zK_249 : zk_K := (zt_mn 137, prog_1_method_34_code, 3, (Option.some Jvm.ClassFile.FieldType.int), 1, 11, [(2, 12, 0, 0), (0, 0, (-2147483648), 2147483647)], [(some (0, 0, (-1), (-1)), []), (some (0, 0, 0, 12), [(1, 2, 2147483646), (1, 99, 2147483646), (2, 1, 12), (99, 1, 0)])], [(0, 1, 0), (0, 2, 0), (6, 2, 0), (27, 1002, 0), (14, 1002, 0), (28, 1002, 0), (15, 1001, 0), (16, 1002, 0)], (5, 157, 0, 0))
theorem zq_249 {l : Launch} {w : zk_W} (hW : zh_W w) : zh_K l w zK_249 := zh_meth hW (lk := [(2, 10, 11, 0, 18), (2, 153, 9, 3, 0), (2, 39, 11, 4, 18), (2, 135, 9, 18, 34)]) (KS := [zK_241, zK_248]) (km := [131, 138]) (lc := [(0, 350, 131), (0, 366, 138)]) (CL0 := zc_X11_least) (ns := [(51, 1, [])]) (AN := [(21, ([(0, 0, 0, 0), (1, 0, 0, 0), (2, 0, (-1), (-1)), (2, 12, 0, 0), (0, 0, 0, 2147483646), (0, 0, 0, 13), (2, 10, 0, 0), (0, 0, 0, 10)], [], [(3, 0, (6, 0)), (6, 3, (7, 0))], [], [(2, (5, 0)), (0, (3, 0)), (1, (4, 0))], [(0, 3), (1, 4)], []), [], 0, 0, (13, [((-1), 5)]))]) (fuel := 194) (pl := 1134) (by decide +kernel) (by decide +kernel) zd_X11_least (by
  intro K h
  rcases List.mem_cons.mp h with rfl | h
  · exact zq_241 hW
  rw [List.mem_singleton.mp h]
  exact zq_248 hW)
/-- X3_begin -/
def zK_250 : zk_K := (zt_mn 141, prog_5_method_3_code, 6, (Option.none : Option Jvm.ClassFile.FieldType), 1, 3, [(2, 3, 0, 0), (2, 10, 0, 0), (2, 0, 0, 0), (0, 0, (-2147483648), 2147483647)], [(none, [])], [(22, 1002, 0), (23, 1002, 0)], (0, 0, 0, 0))
theorem zq_250 {l : Launch} {w : zk_W} (hW : zh_W w) : zh_K l w zK_250 := zh_meth hW (lk := [(2, 40, 9, 4, 34), (2, 18, 3, 2, 18), (2, 78, 9, 18, 34), (2, 82, 2, 2, 34), (2, 85, 0, 4, 34), (2, 21, 3, 3, 18), (2, 86, 0, 5, 34)]) (KS := []) (km := []) (lc := []) (CL0 := zc_X3_begin) (ns := []) (AN := [(3, ([(0, 0, 0, 0), (1, 0, 0, 0), (2, 0, (-1), (-1)), (2, 3, 0, 0), (2, 10, 0, 0), (2, 0, 0, 0), (0, 0, (-2147483648), 2147483647), (0, 0, 0, 10)], [], [], [], [(4, (7, 0)), (0, (3, 0)), (1, (4, 0)), (2, (5, 0)), (3, (6, 0))], [(0, 3), (1, 4), (2, 5), (3, 6)], []), [], 0, 0, (10, [((-1), 7)]))]) (fuel := 234) (pl := 1153) (by decide +kernel) (by decide +kernel) zd_X3_begin (fun K h => nomatch h)
/-- X3_isReady -/
def zK_251 : zk_K := (zt_mn 144, prog_5_method_6_code, 4, (Option.some Jvm.ClassFile.FieldType.boolean), 1, 3, [(2, 3, 0, 0), (2, 10, 0, 0), (0, 0, (-2147483648), 2147483647), (0, 0, (-2147483648), 2147483647)], [(some (0, 0, 0, 0), [(2, 3, 2147483657), (2, 4, 9), (2, 99, 9), (3, 2, 2147483647), (4, 2, 0), (99, 2, 0)]), (some (0, 0, 1, 1), [])], [], (1, 21, 0, 0))
theorem zq_251 {l : Launch} {w : zk_W} (hW : zh_W w) : zh_K l w zK_251 := zh_meth hW (lk := [(2, 18, 3, 2, 18), (2, 94, 9, 5, 34), (2, 21, 3, 3, 18)]) (KS := [zK_21]) (km := [26]) (lc := [(0, 91, 26)]) (CL0 := zc_X3_isReady) (ns := []) (AN := []) (fuel := 142) (pl := 1166) (by decide +kernel) (by decide +kernel) zd_X3_isReady (by
  intro K h
  rw [List.mem_singleton.mp h]
  exact zq_21 hW)
/-- X3_workOf -/
def zK_252 : zk_K := (zt_mn 143, prog_5_method_5_code, 5, (Option.some Jvm.ClassFile.FieldType.int), 1, 3, [(2, 3, 0, 0), (2, 10, 0, 0), (0, 0, (-2147483648), 2147483647)], [(some (0, 0, (-1), (-1)), []), (some (0, 0, 0, 9), [])], [], (2, 44, 0, 0))
theorem zq_252 {l : Launch} {w : zk_W} (hW : zh_W w) : zh_K l w zK_252 := zh_meth hW (lk := [(2, 27, 3, 5, 0), (2, 11, 3, 0, 18), (2, 18, 3, 2, 18), (2, 94, 9, 5, 34), (2, 102, 9, 8, 34)]) (KS := [zK_21, zK_251]) (km := [26, 144]) (lc := [(0, 91, 26), (0, 105, 144)]) (CL0 := zc_X3_workOf) (ns := [(54, 1, [])]) (AN := [(2, ([(0, 0, 0, 0), (1, 0, 0, 0), (2, 0, (-1), (-1)), (2, 3, 0, 0), (2, 10, 0, 0), (0, 0, (-2147483648), 2147483647), (0, 0, 0, 12)], [], [], [], [(3, (6, 0)), (0, (3, 0)), (1, (4, 0)), (2, (5, 0))], [(0, 3), (1, 4), (2, 5)], []), [], 0, 0, (12, [((-1), 6)]))]) (fuel := 206) (pl := 1161) (by decide +kernel) (by decide +kernel) zd_X3_workOf (by
  intro K h
  rcases List.mem_cons.mp h with rfl | h
  · exact zq_21 hW
  rw [List.mem_singleton.mp h]
  exact zq_251 hW)
/-- X3_pass -/
def zK_253 : zk_K := (zt_mn 142, prog_5_method_4_code, 4, (Option.none : Option Jvm.ClassFile.FieldType), 1, 3, [(2, 3, 0, 0), (2, 10, 0, 0)], [(none, [])], [(22, 1002, 0), (23, 1002, 0)], (3, 68, 0, 0))
theorem zq_253 {l : Launch} {w : zk_W} (hW : zh_W w) : zh_K l w zK_253 := zh_meth hW (lk := [(2, 15, 3, 1, 18), (2, 18, 3, 2, 18), (2, 94, 9, 5, 34), (6, 97, 1, 0, 0), (2, 21, 3, 3, 18)]) (KS := [zK_252, zK_21]) (km := [143, 26]) (lc := [(0, 87, 143), (0, 91, 26)]) (CL0 := zc_X3_pass) (ns := [(30, 1, [])]) (AN := [(2, ([(0, 0, 0, 0), (1, 0, 0, 0), (2, 0, (-1), (-1)), (2, 3, 0, 0), (2, 10, 0, 0), (0, 0, 0, 24)], [], [], [], [(2, (5, 0)), (0, (3, 0)), (1, (4, 0))], [(0, 3), (1, 4)], []), [], 0, 0, (24, [((-1), 5)]))]) (fuel := 278) (pl := 1157) (by decide +kernel) (by decide +kernel) zd_X3_pass (by
  intro K h
  rcases List.mem_cons.mp h with rfl | h
  · exact zq_252 hW
  rw [List.mem_singleton.mp h]
  exact zq_21 hW)
/-- X3_worthInTime -/
def zK_254 : zk_K := (zt_mn 145, prog_5_method_7_code, 5, (Option.some Jvm.ClassFile.FieldType.int), 1, 3, [(2, 3, 0, 0), (2, 10, 0, 0)], [(some (0, 0, (-2147483648), 2147483647), [])], [], (1, 21, 0, 0))
theorem zq_254 {l : Launch} {w : zk_W} (hW : zh_W w) : zh_K l w zK_254 := zh_meth hW (lk := [(2, 27, 3, 5, 0), (2, 11, 3, 0, 18), (2, 21, 3, 3, 18), (2, 109, 9, 6, 34), (2, 112, 9, 7, 34)]) (KS := [zK_21]) (km := [26]) (lc := [(0, 91, 26)]) (CL0 := zc_X3_worthInTime) (ns := []) (AN := [(4, ([(0, 0, 0, 0), (1, 0, 0, 0), (2, 0, (-1), (-1)), (2, 3, 0, 0), (2, 10, 0, 0), (0, 0, 0, 12), (0, 0, (-2147483648), 2147483647)], [], [], [], [(3, (5, 0)), (2, (6, 0)), (0, (3, 0)), (1, (4, 0))], [(0, 3), (1, 4)], []), [], 0, 0, (12, [((-1), 5)]))]) (fuel := 222) (pl := 1171) (by decide +kernel) (by decide +kernel) zd_X3_worthInTime (by
  intro K h
  rw [List.mem_singleton.mp h]
  exact zq_21 hW)
/-- X3_exchange -/
def zK_255 : zk_K := (zt_mn 147, prog_5_method_9_code, 4, (Option.none : Option Jvm.ClassFile.FieldType), 1, 3, [(2, 3, 0, 0), (0, 0, (-2147483648), 2147483647), (0, 0, (-2147483648), 2147483647)], [(none, [])], [(20, 1002, 0)], (1, 22, 0, 0))
theorem zq_255 {l : Launch} {w : zk_W} (hW : zh_W w) : zh_K l w zK_255 := zh_meth hW (lk := [(2, 11, 3, 0, 18)]) (KS := [zK_12]) (km := [15]) (lc := [(4, 118, 15)]) (CL0 := zc_X3_exchange) (ns := []) (AN := []) (fuel := 166) (pl := 1180) (by decide +kernel) (by decide +kernel) zd_X3_exchange (by
  intro K h
  rw [List.mem_singleton.mp h]
  exact zq_12 hW)
/-- X3_isNextRow -/
def zK_256 : zk_K := (zt_mn 146, prog_5_method_8_code, 5, (Option.some Jvm.ClassFile.FieldType.boolean), 1, 3, [(2, 3, 0, 0)], [(some (0, 0, 0, 0), []), (some (0, 0, 1, 1), [])], [(20, 1002, 0)], (2, 45, 0, 0))
theorem zq_256 {l : Launch} {w : zk_W} (hW : zh_W w) : zh_K l w zK_256 := zh_meth hW (lk := [(2, 27, 3, 5, 0), (2, 11, 3, 0, 18)]) (KS := [zK_255]) (km := [147]) (lc := [(0, 114, 147)]) (CL0 := zc_X3_isNextRow) (ns := []) (AN := [(7, ([(0, 0, 0, 0), (1, 0, 0, 0), (2, 0, (-1), (-1)), (2, 3, 0, 0), (0, 0, (-2), 4), (0, 0, 0, 6)], [(4, 5, (-2)), (5, 4, 7)], [(3, 5, (5, 0))], [], [(1, (4, 0)), (0, (3, 0))], [(0, 3)], []), [], 0, 0, (735, [(1, 4)])),
  (47, ([(0, 0, 0, 0), (1, 0, 0, 0), (2, 0, (-1), (-1)), (2, 3, 0, 0), (0, 0, (-1), 5), (0, 0, 0, 4), (2, 20, 0, 0), (0, 0, 0, 6)], [(4, 7, (-1)), (5, 4, 0), (5, 7, (-2)), (7, 4, 6)], [(3, 0, (6, 0)), (3, 5, (7, 0))], [], [(2, (4, 0)), (1, (5, 0)), (0, (3, 0))], [(0, 3)], []), [], 0, 0, (392, [(7, 4)])),
  (91, ([(0, 0, 0, 0), (1, 0, 0, 0), (2, 0, (-1), (-1)), (2, 3, 0, 0), (0, 0, 1, 5), (0, 0, (-1), 5), (2, 20, 0, 0), (0, 0, 0, 6)], [(4, 5, 1), (5, 7, (-1)), (7, 5, 5)], [(3, 0, (6, 0)), (3, 5, (7, 0))], [], [(4, (4, 0)), (3, (5, 0)), (0, (3, 0))], [(0, 3)], []), [], 0, 0, (49, [(49, 5)]))]) (fuel := 322) (pl := 1176) (by decide +kernel) (by decide +kernel) zd_X3_isNextRow (by
  intro K h
  rw [List.mem_singleton.mp h]
  exact zq_255 hW)
/-- X3_isFound -/
def zK_257 : zk_K := (zt_mn 140, prog_5_method_2_code, 7, (Option.some Jvm.ClassFile.FieldType.boolean), 1, 3, [(2, 3, 0, 0), (2, 10, 0, 0), (2, 0, 0, 0), (0, 0, (-2147483648), 2147483647)], [(some (0, 0, 0, 0), []), (some (0, 0, 1, 1), [])], [(3, 5, 0), (20, 1002, 0), (27, 1002, 0), (28, 1002, 0), (21, 1002, 0), (3, 6, 0), (22, 1002, 0), (23, 1002, 0), (24, 1001, 0)], (4, 131, 0, 0))
theorem zq_257 {l : Launch} {w : zk_W} (hW : zh_W w) : zh_K l w zK_257 := zh_meth hW (lk := [(2, 27, 3, 5, 0), (2, 37, 9, 3, 0), (2, 40, 9, 4, 34), (2, 11, 3, 0, 18), (2, 15, 3, 1, 18), (2, 53, 3, 6, 0), (2, 24, 3, 4, 18), (8, 68, 0, 0, 0)]) (KS := [zK_23, zK_22, zK_239, zK_250, zK_253, zK_254, zK_256]) (km := [24, 25, 129, 141, 142, 145, 146]) (lc := [(0, 31, 24), (0, 43, 25), (0, 47, 129), (0, 56, 141), (0, 60, 142), (0, 64, 145), (0, 74, 146)]) (CL0 := zc_X3_isFound) (ns := [(50, 1, []), (112, 2, []), (150, 3, []), (155, 4, []), (160, 5, []), (196, 6, [])]) (AN := [(20, ([(0, 0, 0, 0), (1, 0, 0, 0), (2, 0, (-1), (-1)), (2, 3, 0, 0), (2, 10, 0, 0), (2, 0, 0, 0), (0, 0, (-2147483648), 2147483647), (0, 0, 0, 10), (0, 0, 0, 6)], [(8, 7, 0)], [(3, 5, (8, 0))], [], [(4, (7, 0)), (0, (3, 0)), (1, (4, 0)), (2, (5, 0)), (3, (6, 0))], [(0, 3), (1, 4), (2, 5), (3, 6)], []), [], 0, 0, (594550, [((-1), 7)])),
  (95, ([(0, 0, 0, 0), (1, 0, 0, 0), (2, 0, (-1), (-1)), (2, 3, 0, 0), (2, 10, 0, 0), (2, 0, 0, 0), (0, 0, (-2147483648), 2147483647), (0, 0, 0, 24), (0, 0, 0, 6), (0, 0, 0, 10)], [], [(3, 5, (8, 0)), (4, 3, (9, 0))], [], [(4, (7, 0)), (0, (3, 0)), (1, (4, 0)), (2, (5, 0)), (3, (6, 0))], [(0, 3), (1, 4), (2, 5), (3, 6)], []), [], 0, 0, (396275, [((-11), 7)])),
  (133, ([(0, 0, 0, 0), (1, 0, 0, 0), (2, 0, (-1), (-1)), (2, 3, 0, 0), (2, 10, 0, 0), (2, 0, 0, 0), (0, 0, (-2147483648), 2147483647), (0, 0, 0, 720), (0, 0, 0, 1), (0, 0, (-1), 2147483647), (0, 0, 0, 6), (0, 0, 0, 10)], [], [(3, 6, (9, 0)), (3, 5, (10, 0)), (4, 3, (11, 0))], [], [(5, (7, 0)), (4, (8, 0)), (0, (3, 0)), (1, (4, 0)), (2, (5, 0)), (3, (6, 0))], [(0, 3), (1, 4), (2, 5), (3, 6)], []), [], 0, 0, (198000, [((-275), 7)]))]) (fuel := 482) (pl := 1146) (by decide +kernel) (by decide +kernel) zd_X3_isFound (by
  intro K h
  rcases List.mem_cons.mp h with rfl | h
  · exact zq_23 hW
  rcases List.mem_cons.mp h with rfl | h
  · exact zq_22 hW
  rcases List.mem_cons.mp h with rfl | h
  · exact zq_239 hW
  rcases List.mem_cons.mp h with rfl | h
  · exact zq_250 hW
  rcases List.mem_cons.mp h with rfl | h
  · exact zq_253 hW
  rcases List.mem_cons.mp h with rfl | h
  · exact zq_254 hW
  rw [List.mem_singleton.mp h]
  exact zq_256 hW)
/-- X11_orderly -/
def zK_258 : zk_K := (zt_mn 139, prog_1_method_35_code, 4, (Option.some Jvm.ClassFile.FieldType.int), 1, 11, [(2, 12, 0, 0), (0, 0, (-2147483648), 2147483647), (0, 0, (-2147483648), 2147483647), (0, 0, (-2147483648), 2147483647)], [(some (0, 0, (-1), (-1)), []), (some (0, 0, (-2147483648), 2147483647), [(1, 2, 5), (1, 3, 6), (1, 4, 2147483653), (1, 99, 5), (2, 1, 12), (2, 3, 13), (2, 4, 2147483660), (2, 99, 12), (3, 1, 5), (3, 2, 5), (3, 4, 2147483653), (3, 99, 5), (4, 1, 2147483647), (4, 2, 2147483647), (4, 3, 2147483648), (99, 1, 0), (99, 2, 0), (99, 3, 1)])], [(0, 1, 0), (0, 2, 0), (6, 2, 0), (27, 1002, 0), (14, 1002, 0), (28, 1002, 0), (15, 1001, 0), (16, 1002, 0), (3, 5, 0), (20, 1002, 0), (21, 1002, 0), (3, 6, 0), (22, 1002, 0), (23, 1002, 0), (24, 1001, 0)], (5, 157, 0, 0))
theorem zq_258 {l : Launch} {w : zk_W} (hW : zh_W w) : zh_K l w zK_258 := zh_meth hW (lk := [(2, 10, 11, 0, 18), (2, 39, 11, 4, 18), (2, 135, 9, 18, 34), (2, 46, 11, 5, 18), (2, 373, 3, 6, 0), (2, 375, 3, 5, 0), (2, 378, 3, 4, 34)]) (KS := [zK_19, zK_165, zK_241, zK_257, zK_12]) (km := [22, 86, 131, 140, 15]) (lc := [(0, 131, 22), (1, 292, 86), (0, 350, 131), (0, 369, 140), (1, 107, 15)]) (CL0 := zc_X11_orderly) (ns := [(12, 1, []), (36, 2, []), (52, 3, []), (84, 4, [])]) (AN := []) (fuel := 266) (pl := 1142) (by decide +kernel) (by decide +kernel) zd_X11_orderly (by
  intro K h
  rcases List.mem_cons.mp h with rfl | h
  · exact zq_19 hW
  rcases List.mem_cons.mp h with rfl | h
  · exact zq_165 hW
  rcases List.mem_cons.mp h with rfl | h
  · exact zq_241 hW
  rcases List.mem_cons.mp h with rfl | h
  · exact zq_257 hW
  rw [List.mem_singleton.mp h]
  exact zq_12 hW)
/-- X11_lasts -/
def zK_260 : zk_K := (zt_mn 149, prog_1_method_37_code, 3, (Option.some Jvm.ClassFile.FieldType.int), 1, 11, [(2, 12, 0, 0), (0, 0, (-2147483648), 2147483647)], [(some (0, 0, (-1), (-1)), []), (some (0, 0, 0, 998), [(1, 2, 12), (1, 99, 12), (2, 1, 998), (99, 1, 0)])], [(17, 1001, 0), (18, 1001, 0), (19, 1001, 0), (2, 3, 0), (2, 4, 0), (2, 5, 0), (2, 6, 0), (6, 2, 0), (27, 1002, 0), (28, 1002, 0)], (3, 104, 0, 0))
theorem zq_260 {l : Launch} {w : zk_W} (hW : zh_W w) : zh_K l w zK_260 := zh_meth hW (lk := [(2, 10, 11, 0, 18), (2, 135, 9, 18, 34), (2, 308, 2, 4, 3), (2, 101, 11, 16, 18), (2, 30, 11, 3, 18), (2, 283, 2, 3, 0), (2, 178, 2, 6, 0)]) (KS := [zK_165, zK_161, zK_185, zK_191, zK_192]) (km := [86, 80, 90, 92, 100]) (lc := [(1, 292, 86), (0, 226, 80), (0, 295, 90), (0, 299, 92), (0, 387, 100)]) (CL0 := zc_X11_lasts) (ns := [(35, 1, []), (60, 2, []), (71, 3, []), (74, 4, [])]) (AN := [(40, ([(0, 0, 0, 0), (1, 0, 0, 0), (2, 0, (-1), (-1)), (2, 12, 0, 0), (0, 0, 0, 12), (0, 0, 0, 999), (2, 2, 0, 0), (2, 10, 0, 0), (2, 2, 0, 0)], [], [(3, 16, (6, 0)), (3, 0, (7, 0)), (7, 18, (8, 0))], [], [(2, (5, 0)), (0, (3, 0)), (1, (4, 0))], [(0, 3), (1, 4)], []), [], 0, 0, (999, [((-1), 5)]))]) (fuel := 266) (pl := 1191) (by decide +kernel) (by decide +kernel) zd_X11_lasts (by
  intro K h
  rcases List.mem_cons.mp h with rfl | h
  · exact zq_165 hW
  rcases List.mem_cons.mp h with rfl | h
  · exact zq_161 hW
  rcases List.mem_cons.mp h with rfl | h
  · exact zq_185 hW
  rcases List.mem_cons.mp h with rfl | h
  · exact zq_191 hW
  rw [List.mem_singleton.mp h]
  exact zq_192 hW)
/-- X11_odds -/
def zK_261 : zk_K := (zt_mn 150, prog_1_method_38_code, 6, (Option.some Jvm.ClassFile.FieldType.long), 1, 11, [(2, 12, 0, 0), (0, 0, (-2147483648), 2147483647), (0, 0, (-2147483648), 2147483647)], [(some (1, 0, (-9223372036854775808), 9223372036854775807), [(1, 3, 9223372036854775820), (2, 3, 9223372036854775868), (3, 1, 9223372036854775807), (3, 2, 9223372036854775807)])], [(17, 1001, 0), (18, 1001, 0), (19, 1001, 0), (2, 3, 0), (2, 4, 0), (2, 5, 0), (2, 6, 0), (6, 2, 0), (27, 1002, 0), (28, 1002, 0)], (3, 104, 0, 0))
theorem zq_261 {l : Launch} {w : zk_W} (hW : zh_W w) : zh_K l w zK_261 := zh_meth hW (lk := [(1, 390, 0, 0, (-1)), (1, 392, 0, 0, 1000000000000), (2, 101, 11, 16, 18), (2, 10, 11, 0, 18), (2, 135, 9, 18, 34), (2, 30, 11, 3, 18), (1, 394, 0, 0, 100), (2, 178, 2, 6, 0)]) (KS := [zK_165, zK_12, zK_161, zK_185, zK_214, zK_191, zK_192]) (km := [86, 15, 80, 90, 119, 92, 100]) (lc := [(1, 292, 86), (1, 107, 15), (0, 226, 80), (0, 295, 90), (0, 302, 119), (0, 299, 92), (0, 387, 100)]) (CL0 := zc_X11_odds) (ns := [(4, 1, []), (11, 1, []), (14, 1, []), (36, 2, []), (45, 1, []), (61, 3, []), (70, 4, []), (89, 5, []), (92, 6, [])]) (AN := [(42, ([(0, 0, 0, 0), (1, 0, 0, 0), (2, 0, (-1), (-1)), (2, 12, 0, 0), (0, 0, 0, 12), (0, 0, 0, 60), (0, 0, 0, 60), (1, 0, (-9223372036854775808), 9223372036854775807), (2, 10, 0, 0), (2, 2, 0, 0), (2, 2, 0, 0)], [(6, 5, 1)], [(3, 0, (8, 0)), (3, 16, (9, 0)), (8, 18, (10, 0))], [], [(5, (6, 0)), (3, (7, 0)), (0, (3, 0)), (1, (4, 0)), (2, (5, 0))], [(0, 3), (1, 4), (2, 5)], []), [], 0, 0, (60, [((-1), 6)]))]) (fuel := 286) (pl := 1196) (by decide +kernel) (by decide +kernel) zd_X11_odds (by
  intro K h
  rcases List.mem_cons.mp h with rfl | h
  · exact zq_165 hW
  rcases List.mem_cons.mp h with rfl | h
  · exact zq_12 hW
  rcases List.mem_cons.mp h with rfl | h
  · exact zq_161 hW
  rcases List.mem_cons.mp h with rfl | h
  · exact zq_185 hW
  rcases List.mem_cons.mp h with rfl | h
  · exact zq_214 hW
  rcases List.mem_cons.mp h with rfl | h
  · exact zq_191 hW
  rw [List.mem_singleton.mp h]
  exact zq_192 hW)
/-- X9_addSight -/
def zK_262 : zk_K := (zt_mn 152, prog_11_method_9_code, 4, (Option.none : Option Jvm.ClassFile.FieldType), 1, 9, [(2, 10, 0, 0), (0, 0, (-2147483648), 2147483647), (0, 0, (-2147483648), 2147483647), (0, 0, (-2147483648), 2147483647)], [(none, [])], [(49, 1002, 0), (50, 1002, 0), (51, 1002, 0), (10, 9, 0)], (0, 0, 0, 0))
theorem zq_262 {l : Launch} {w : zk_W} (hW : zh_W w) : zh_K l w zK_262 := zh_meth hW (lk := [(2, 74, 9, 9, 0), (2, 33, 9, 10, 18), (2, 36, 9, 11, 18), (2, 39, 9, 12, 18)]) (KS := []) (km := []) (lc := []) (CL0 := zc_X9_addSight) (ns := []) (AN := []) (fuel := 170) (pl := 1207) (by decide +kernel) (by decide +kernel) zd_X9_addSight (fun K h => nomatch h)
/-- X11_sight -/
def zK_263 : zk_K := (zt_mn 151, prog_1_method_39_code, 4, (Option.some Jvm.ClassFile.FieldType.int), 1, 11, [(2, 12, 0, 0), (0, 0, (-2147483648), 2147483647), (0, 0, (-2147483648), 2147483647), (0, 0, (-2147483648), 2147483647)], [(some (0, 0, (-1), (-1)), []), (some (0, 0, (-5), 8), [(1, 2, 2147483647), (1, 3, 2147483647), (1, 4, 2147483649), (2, 1, 2147483671), (2, 3, 23), (2, 4, 28), (2, 99, 23), (3, 1, 2147484248), (3, 2, 600), (3, 4, 605), (3, 99, 600), (4, 1, 2147483646), (4, 2, 8), (4, 3, 8), (99, 2, 0), (99, 3, 0)])], [(12, 18, 0), (57, 1002, 0), (49, 1002, 0), (50, 1002, 0), (51, 1002, 0), (10, 9, 0)], (1, 23, 0, 0))
theorem zq_263 {l : Launch} {w : zk_W} (hW : zh_W w) : zh_K l w zK_263 := zh_meth hW (lk := [(2, 10, 11, 0, 18), (2, 396, 9, 9, 0)]) (KS := [zK_12, zK_13, zK_21, zK_262, zK_14]) (km := [15, 16, 26, 152, 17]) (lc := [(1, 107, 15), (0, 111, 16), (0, 150, 26), (0, 399, 152), (0, 118, 17)]) (CL0 := zc_X11_sight) (ns := [(23, 1, []), (32, 2, []), (41, 1, []), (60, 1, []), (71, 3, []), (82, 4, [])]) (AN := []) (fuel := 226) (pl := 1203) (by decide +kernel) (by decide +kernel) zd_X11_sight (by
  intro K h
  rcases List.mem_cons.mp h with rfl | h
  · exact zq_12 hW
  rcases List.mem_cons.mp h with rfl | h
  · exact zq_13 hW
  rcases List.mem_cons.mp h with rfl | h
  · exact zq_21 hW
  rcases List.mem_cons.mp h with rfl | h
  · exact zq_262 hW
  rw [List.mem_singleton.mp h]
  exact zq_14 hW)
/-- X11_forget -/
def zK_264 : zk_K := (zt_mn 153, prog_1_method_40_code, 2, (Option.some Jvm.ClassFile.FieldType.int), 1, 11, [(2, 12, 0, 0)], [(some (0, 0, 0, 8), [])], [(10, 9, 0)], (0, 0, 0, 0))
theorem zq_264 {l : Launch} {w : zk_W} (hW : zh_W w) : zh_K l w zK_264 := zh_meth hW (lk := [(2, 10, 11, 0, 18), (2, 396, 9, 9, 0)]) (KS := []) (km := []) (lc := []) (CL0 := zc_X11_forget) (ns := []) (AN := []) (fuel := 90) (pl := 1211) (by decide +kernel) (by decide +kernel) zd_X11_forget (fun K h => nomatch h)
/-- X0_areSightsSo -/
def zK_265 : zk_K := (zt_mn 155, prog_2_method_15_code, 4, (Option.some Jvm.ClassFile.FieldType.boolean), 1, 0, [(2, 0, 0, 0)], [(some (0, 0, 0, 0), []), (some (0, 0, 1, 1), [])], [(27, 1002, 0), (28, 1002, 0), (15, 1002, 0), (16, 1002, 0)], (4, 133, 0, 0))
theorem zq_265 {l : Launch} {w : zk_W} (hW : zh_W w) : zh_K l w zK_265 := zh_meth hW (lk := [(2, 25, 0, 1, 2), (2, 141, 9, 9, 0), (2, 144, 9, 10, 34), (2, 147, 9, 11, 34), (2, 15, 0, 4, 18), (2, 150, 9, 12, 34)]) (KS := [zK_203, zK_21]) (km := [108, 26]) (lc := [(0, 69, 108), (0, 119, 26)]) (CL0 := zc_X0_areSightsSo) (ns := [(60, 1, [])]) (AN := [(2, ([(0, 0, 0, 0), (1, 0, 0, 0), (2, 0, (-1), (-1)), (2, 0, 0, 0), (0, 0, 0, 24)], [], [], [], [(1, (4, 0)), (0, (3, 0))], [(0, 3)], []), [], 0, 0, (432, [((-18), 4)])),
  (15, ([(0, 0, 0, 0), (1, 0, 0, 0), (2, 0, (-1), (-1)), (2, 0, 0, 0), (0, 0, 0, 8), (0, 0, 0, 23)], [], [], [], [(2, (4, 0)), (1, (5, 0)), (0, (3, 0))], [(0, 3)], []), [], 0, 0, (423, [((-1), 4), ((-18), 5)]))]) (fuel := 266) (pl := 1219) (by decide +kernel) (by decide +kernel) zd_X0_areSightsSo (by
  intro K h
  rcases List.mem_cons.mp h with rfl | h
  · exact zq_203 hW
  rw [List.mem_singleton.mp h]
  exact zq_21 hW)
/-- X11_fits -/
def zK_266 : zk_K := (zt_mn 154, prog_1_method_41_code, 3, (Option.some Jvm.ClassFile.FieldType.int), 1, 11, [(2, 12, 0, 0)], [(some (0, 0, (-2147483648), 2147483647), [])], [(0, 1, 0), (0, 2, 0), (6, 2, 0), (27, 1002, 0), (14, 1002, 0), (28, 1002, 0), (15, 1001, 0), (16, 1002, 0)], (5, 156, 0, 0))
theorem zq_266 {l : Launch} {w : zk_W} (hW : zh_W w) : zh_K l w zK_266 := zh_meth hW (lk := [(2, 39, 11, 4, 18), (2, 10, 11, 0, 18), (2, 135, 9, 18, 34)]) (KS := [zK_199, zK_265]) (km := [105, 155]) (lc := [(0, 341, 105), (0, 403, 155)]) (CL0 := zc_X11_fits) (ns := [(33, 1, [])]) (AN := [(4, ([(0, 0, 0, 0), (1, 0, 0, 0), (2, 0, (-1), (-1)), (2, 12, 0, 0), (0, 0, 0, 13), (0, 0, (-2147483648), 2147483647)], [], [], [], [(2, (4, 0)), (1, (5, 0)), (0, (3, 0))], [(0, 3)], []), [], 0, 0, (13, [((-1), 4)]))]) (fuel := 170) (pl := 1215) (by decide +kernel) (by decide +kernel) zd_X11_fits (by
  intro K h
  rcases List.mem_cons.mp h with rfl | h
  · exact zq_199 hW
  rw [List.mem_singleton.mp h]
  exact zq_265 hW)
/-- J6_bitCount_0f7a4 -/
def zK_267 : zk_K := (zt_mn 158, prog_15_method_49_code, 1, (Option.some Jvm.ClassFile.FieldType.int), 0, 0, [(0, 0, (-2147483648), 2147483647)], [(some (0, 0, 0, 63), [])], [], (0, 0, 0, 0))
theorem zq_267 {l : Launch} {w : zk_W} (hW : zh_W w) : zh_K l w zK_267 := zh_meth hW (lk := [(0, 265, 0, 0, 1431655765), (0, 266, 0, 0, 858993459), (0, 267, 0, 0, 252645135)]) (KS := []) (km := []) (lc := []) (CL0 := zc_J6_bitCount_0f7a4) (ns := []) (AN := []) (fuel := 218) (pl := 1230) (by decide +kernel) (by decide +kernel) zd_J6_bitCount_0f7a4 (fun K h => nomatch h)