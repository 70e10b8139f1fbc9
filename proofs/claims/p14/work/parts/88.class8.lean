/-! part 68: contracts of the class, by the checker -/
/-- X0_speed -/
noncomputable def zK_239 : zk_K := (zt_mn 129, prog_2_method_8_code, 3, (Option.some Jvm.ClassFile.FieldType.int), 1, 0, [(2, 0, 0, 0), (0, 0, (-2147483648), 2147483647), (0, 0, (-2147483648), 2147483647)], [(some (0, 0, 0, 2147483647), [(3, 1, 2147483648), (3, 2, 2147483648)])], [(27, 1002, 0), (28, 1002, 0)], (3, 109, 0, 0))
theorem zq_239 {l : Launch} {w : zk_W} (hW : zh_W w) : zh_K l w zK_239 := zh_meth hW (lk := [(2, 25, 0, 1, 2), (2, 21, 0, 0, 18), (2, 9, 0, 3, 18), (2, 35, 0, 2, 2), (2, 93, 2, 0, 34), (2, 96, 2, 1, 34)]) (KS := [zK_12, zK_19, zK_202]) (km := [15, 22, 111]) (lc := [(4, 122, 15), (0, 126, 22), (0, 99, 111)]) (CL0 := zc_X0_speed) (ns := [(15, 1, []), (53, 2, [])]) (AN := []) (fuel := 178) (pl := 1099) (by decide +kernel) (by decide +kernel) zd_X0_speed (by
  intro K h
  rcases List.mem_cons.mp h with rfl | h
  · exact zq_12 hW
  rcases List.mem_cons.mp h with rfl | h
  · exact zq_19 hW
  rw [List.mem_singleton.mp h]
  exact zq_202 hW)
/-- X0_pass -/
noncomputable def zK_241 : zk_K := (zt_mn 131, prog_2_method_3_code, 5, (Option.none : Option Jvm.ClassFile.FieldType), 1, 0, [(2, 0, 0, 0), (2, 10, 0, 0), (2, 2, 0, 0), (0, 0, (-2147483648), 2147483647)], [(none, [])], [(0, 1, 0), (0, 2, 0), (6, 2, 0), (27, 1002, 0), (14, 1002, 0), (28, 1002, 0), (15, 1001, 0), (16, 1002, 0)], (4, 133, 0, 0))
theorem zq_241 {l : Launch} {w : zk_W} (hW : zh_W w) : zh_K l w zK_241 := zh_meth hW (lk := []) (KS := [zK_199, zK_203]) (km := [105, 108]) (lc := [(0, 66, 105), (0, 69, 108)]) (CL0 := zc_X0_pass) (ns := [(20, 1, [])]) (AN := [(10, ([(0, 0, 0, 0), (1, 0, 0, 0), (2, 0, (-1), (-1)), (2, 0, 0, 0), (2, 10, 0, 0), (2, 2, 0, 0), (0, 0, (-2147483648), 2147483647), (0, 0, 0, 24)], [], [], [], [(4, (7, 0)), (0, (3, 0))], [(0, 3), (1, 4), (2, 5), (3, 6)], []), [], 0, 0, (24, [((-1), 7)]))]) (fuel := 114) (pl := 1109) (by decide +kernel) (by decide +kernel) zd_X0_pass (by
  intro K h
  rcases List.mem_cons.mp h with rfl | h
  · exact zq_199 hW
  rw [List.mem_singleton.mp h]
  exact zq_203 hW)
/-- X0_isInTime -/
noncomputable def zK_244 : zk_K := (zt_mn 135, prog_2_method_11_code, 2, (Option.some Jvm.ClassFile.FieldType.boolean), 1, 0, [(2, 0, 0, 0), (0, 0, (-2147483648), 2147483647)], [(some (0, 0, 0, 0), []), (some (0, 0, 1, 1), [(1, 2, 8), (1, 99, 9), (2, 1, 1), (99, 1, 0)])], [], (1, 21, 0, 0))
theorem zq_244 {l : Launch} {w : zk_W} (hW : zh_W w) : zh_K l w zK_244 := zh_meth hW (lk := [(2, 18, 0, 5, 18), (2, 25, 0, 1, 2), (2, 132, 9, 6, 34)]) (KS := [zK_205]) (km := [113]) (lc := [(0, 83, 113)]) (CL0 := zc_X0_isInTime) (ns := []) (AN := []) (fuel := 122) (pl := 1126) (by decide +kernel) (by decide +kernel) zd_X0_isInTime (by
  intro K h
  rw [List.mem_singleton.mp h]
  exact zq_205 hW)
/-- X0_areInTime -/
noncomputable def zK_248 : zk_K := (zt_mn 138, prog_2_method_12_code, 3, (Option.some Jvm.ClassFile.FieldType.boolean), 1, 0, [(2, 0, 0, 0), (0, 0, (-2147483648), 2147483647)], [(some (0, 0, 0, 0), []), (some (0, 0, 1, 1), [])], [], (2, 42, 0, 0))
theorem zq_248 {l : Launch} {w : zk_W} (hW : zh_W w) : zh_K l w zK_248 := zh_meth hW (lk := [(2, 25, 0, 1, 2), (2, 80, 9, 3, 0)]) (KS := [zK_244]) (km := [135]) (lc := [(0, 135, 135)]) (CL0 := zc_X0_areInTime) (ns := []) (AN := [(2, ([(0, 0, 0, 0), (1, 0, 0, 0), (2, 0, (-1), (-1)), (2, 0, 0, 0), (0, 0, (-2147483648), 2147483647), (0, 0, 0, 12)], [], [], [], [(2, (5, 0)), (0, (3, 0)), (1, (4, 0))], [(0, 3), (1, 4)], []), [], 0, 0, (12, [((-1), 5)]))]) (fuel := 146) (pl := 1138) (by decide +kernel) (by decide +kernel) zd_X0_areInTime (by
  intro K h
  rw [List.mem_singleton.mp h]
  exact zq_244 hW)
/-- X11_least -/
noncomputable def zK_249 : zk_K := (zt_mn 137, prog_1_method_34_code, 3, (Option.some Jvm.ClassFile.FieldType.int), 1, 11, [(2, 12, 0, 0), (0, 0, (-2147483648), 2147483647)], [(some (0, 0, (-1), (-1)), []), (some (0, 0, 0, 12), [(1, 2, 2147483646), (1, 99, 2147483646), (2, 1, 12), (99, 1, 0)])], [(0, 1, 0), (0, 2, 0), (6, 2, 0), (27, 1002, 0), (14, 1002, 0), (28, 1002, 0), (15, 1001, 0), (16, 1002, 0)], (5, 157, 0, 0))
theorem zq_249 {l : Launch} {w : zk_W} (hW : zh_W w) : zh_K l w zK_249 := zh_meth hW (lk := [(2, 10, 11, 0, 18), (2, 153, 9, 3, 0), (2, 39, 11, 4, 18), (2, 135, 9, 18, 34)]) (KS := [zK_241, zK_248]) (km := [131, 138]) (lc := [(0, 350, 131), (0, 366, 138)]) (CL0 := zc_X11_least) (ns := [(51, 1, [])]) (AN := [(21, ([(0, 0, 0, 0), (1, 0, 0, 0), (2, 0, (-1), (-1)), (2, 12, 0, 0), (0, 0, 0, 2147483646), (0, 0, 0, 13), (2, 10, 0, 0), (0, 0, 0, 10)], [], [(3, 0, (6, 0)), (6, 3, (7, 0))], [], [(2, (5, 0)), (0, (3, 0)), (1, (4, 0))], [(0, 3), (1, 4)], []), [], 0, 0, (13, [((-1), 5)]))]) (fuel := 194) (pl := 1134) (by decide +kernel) (by decide +kernel) zd_X11_least (by
  intro K h
  rcases List.mem_cons.mp h with rfl | h
  · exact zq_241 hW
  rw [List.mem_singleton.mp h]
  exact zq_248 hW)
/-- X3_begin -/
noncomputable def zK_250 : zk_K := (zt_mn 141, prog_5_method_3_code, 6, (Option.none : Option Jvm.ClassFile.FieldType), 1, 3, [(2, 3, 0, 0), (2, 10, 0, 0), (2, 0, 0, 0), (0, 0, (-2147483648), 2147483647)], [(none, [])], [(22, 1002, 0), (23, 1002, 0)], (0, 0, 0, 0))
theorem zq_250 {l : Launch} {w : zk_W} (hW : zh_W w) : zh_K l w zK_250 := zh_meth hW (lk := [(2, 40, 9, 4, 34), (2, 18, 3, 2, 18), (2, 78, 9, 18, 34), (2, 82, 2, 2, 34), (2, 85, 0, 4, 34), (2, 21, 3, 3, 18), (2, 86, 0, 5, 34)]) (KS := []) (km := []) (lc := []) (CL0 := zc_X3_begin) (ns := []) (AN := [(3, ([(0, 0, 0, 0), (1, 0, 0, 0), (2, 0, (-1), (-1)), (2, 3, 0, 0), (2, 10, 0, 0), (2, 0, 0, 0), (0, 0, (-2147483648), 2147483647), (0, 0, 0, 10)], [], [], [], [(4, (7, 0)), (0, (3, 0)), (1, (4, 0)), (2, (5, 0)), (3, (6, 0))], [(0, 3), (1, 4), (2, 5), (3, 6)], []), [], 0, 0, (10, [((-1), 7)]))]) (fuel := 234) (pl := 1153) (by decide +kernel) (by decide +kernel) zd_X3_begin (fun K h => nomatch h)
/-- X3_isReady -/
noncomputable def zK_251 : zk_K := (zt_mn 144, prog_5_method_6_code, 4, (Option.some Jvm.ClassFile.FieldType.boolean), 1, 3, [(2, 3, 0, 0), (2, 10, 0, 0), (0, 0, (-2147483648), 2147483647), (0, 0, (-2147483648), 2147483647)], [(some (0, 0, 0, 0), [(2, 3, 2147483657), (2, 4, 9), (2, 99, 9), (3, 2, 2147483647), (4, 2, 0), (99, 2, 0)]), (some (0, 0, 1, 1), [])], [], (1, 21, 0, 0))
theorem zq_251 {l : Launch} {w : zk_W} (hW : zh_W w) : zh_K l w zK_251 := zh_meth hW (lk := [(2, 18, 3, 2, 18), (2, 94, 9, 5, 34), (2, 21, 3, 3, 18)]) (KS := [zK_21]) (km := [26]) (lc := [(0, 91, 26)]) (CL0 := zc_X3_isReady) (ns := []) (AN := []) (fuel := 142) (pl := 1166) (by decide +kernel) (by decide +kernel) zd_X3_isReady (by
  intro K h
  rw [List.mem_singleton.mp h]
  exact zq_21 hW)
/-- X3_workOf -/
noncomputable def zK_252 : zk_K := (zt_mn 143, prog_5_method_5_code, 5, (Option.some Jvm.ClassFile.FieldType.int), 1, 3, [(2, 3, 0, 0), (2, 10, 0, 0), (0, 0, (-2147483648), 2147483647)], [(some (0, 0, (-1), (-1)), []), (some (0, 0, 0, 9), [])], [], (2, 44, 0, 0))
theorem zq_252 {l : Launch} {w : zk_W} (hW : zh_W w) : zh_K l w zK_252 := zh_meth hW (lk := [(2, 27, 3, 5, 0), (2, 11, 3, 0, 18), (2, 18, 3, 2, 18), (2, 94, 9, 5, 34), (2, 102, 9, 8, 34)]) (KS := [zK_21, zK_251]) (km := [26, 144]) (lc := [(0, 91, 26), (0, 105, 144)]) (CL0 := zc_X3_workOf) (ns := [(54, 1, [])]) (AN := [(2, ([(0, 0, 0, 0), (1, 0, 0, 0), (2, 0, (-1), (-1)), (2, 3, 0, 0), (2, 10, 0, 0), (0, 0, (-2147483648), 2147483647), (0, 0, 0, 12)], [], [], [], [(3, (6, 0)), (0, (3, 0)), (1, (4, 0)), (2, (5, 0))], [(0, 3), (1, 4), (2, 5)], []), [], 0, 0, (12, [((-1), 6)]))]) (fuel := 206) (pl := 1161) (by decide +kernel) (by decide +kernel) zd_X3_workOf (by
  intro K h
  rcases List.mem_cons.mp h with rfl | h
  · exact zq_21 hW
  rw [List.mem_singleton.mp h]
  exact zq_251 hW)
/-- X3_pass -/
noncomputable def zK_253 : zk_K := (zt_mn 142, prog_5_method_4_code, 4, (Option.none : Option Jvm.ClassFile.FieldType), 1, 3, [(2, 3, 0, 0), (2, 10, 0, 0)], [(none, [])], [(22, 1002, 0), (23, 1002, 0)], (3, 68, 0, 0))
theorem zq_253 {l : Launch} {w : zk_W} (hW : zh_W w) : zh_K l w zK_253 := zh_meth hW (lk := [(2, 15, 3, 1, 18), (2, 18, 3, 2, 18), (2, 94, 9, 5, 34), (6, 97, 1, 0, 0), (2, 21, 3, 3, 18)]) (KS := [zK_252, zK_21]) (km := [143, 26]) (lc := [(0, 87, 143), (0, 91, 26)]) (CL0 := zc_X3_pass) (ns := [(30, 1, [])]) (AN := [(2, ([(0, 0, 0, 0), (1, 0, 0, 0), (2, 0, (-1), (-1)), (2, 3, 0, 0), (2, 10, 0, 0), (0, 0, 0, 24)], [], [], [], [(2, (5, 0)), (0, (3, 0)), (1, (4, 0))], [(0, 3), (1, 4)], []), [], 0, 0, (24, [((-1), 5)]))]) (fuel := 278) (pl := 1157) (by decide +kernel) (by decide +kernel) zd_X3_pass (by
  intro K h
  rcases List.mem_cons.mp h with rfl | h
  · exact zq_252 hW
  rw [List.mem_singleton.mp h]
  exact zq_21 hW)
/-- X3_worthInTime -/
noncomputable def zK_254 : zk_K := (zt_mn 145, prog_5_method_7_code, 5, (Option.some Jvm.ClassFile.FieldType.int), 1, 3, [(2, 3, 0, 0), (2, 10, 0, 0)], [(some (0, 0, (-2147483648), 2147483647), [])], [], (1, 21, 0, 0))
theorem zq_254 {l : Launch} {w : zk_W} (hW : zh_W w) : zh_K l w zK_254 := zh_meth hW (lk := [(2, 27, 3, 5, 0), (2, 11, 3, 0, 18), (2, 21, 3, 3, 18), (2, 109, 9, 6, 34), (2, 112, 9, 7, 34)]) (KS := [zK_21]) (km := [26]) (lc := [(0, 91, 26)]) (CL0 := zc_X3_worthInTime) (ns := []) (AN := [(4, ([(0, 0, 0, 0), (1, 0, 0, 0), (2, 0, (-1), (-1)), (2, 3, 0, 0), (2, 10, 0, 0), (0, 0, 0, 12), (0, 0, (-2147483648), 2147483647)], [], [], [], [(3, (5, 0)), (2, (6, 0)), (0, (3, 0)), (1, (4, 0))], [(0, 3), (1, 4)], []), [], 0, 0, (12, [((-1), 5)]))]) (fuel := 222) (pl := 1171) (by decide +kernel) (by decide +kernel) zd_X3_worthInTime (by
  intro K h
  rw [List.mem_singleton.mp h]
  exact zq_21 hW)
/-- X3_exchange -/
noncomputable def zK_255 : zk_K := (zt_mn 147, prog_5_method_9_code, 4, (Option.none : Option Jvm.ClassFile.FieldType), 1, 3, [(2, 3, 0, 0), (0, 0, (-2147483648), 2147483647), (0, 0, (-2147483648), 2147483647)], [(none, [])], [(20, 1002, 0)], (1, 22, 0, 0))
theorem zq_255 {l : Launch} {w : zk_W} (hW : zh_W w) : zh_K l w zK_255 := zh_meth hW (lk := [(2, 11, 3, 0, 18)]) (KS := [zK_12]) (km := [15]) (lc := [(4, 118, 15)]) (CL0 := zc_X3_exchange) (ns := []) (AN := []) (fuel := 166) (pl := 1180) (by decide +kernel) (by decide +kernel) zd_X3_exchange (by
  intro K h
  rw [List.mem_singleton.mp h]
  exact zq_12 hW)
/-- X3_isNextRow -/
noncomputable def zK_256 : zk_K := (zt_mn 146, prog_5_method_8_code, 5, (Option.some Jvm.ClassFile.FieldType.boolean), 1, 3, [(2, 3, 0, 0)], [(some (0, 0, 0, 0), []), (some (0, 0, 1, 1), [])], [(20, 1002, 0)], (2, 45, 0, 0))
theorem zq_256 {l : Launch} {w : zk_W} (hW : zh_W w) : zh_K l w zK_256 := zh_meth hW (lk := [(2, 27, 3, 5, 0), (2, 11, 3, 0, 18)]) (KS := [zK_255]) (km := [147]) (lc := [(0, 114, 147)]) (CL0 := zc_X3_isNextRow) (ns := []) (AN := [(7, ([(0, 0, 0, 0), (1, 0, 0, 0), (2, 0, (-1), (-1)), (2, 3, 0, 0), (0, 0, (-2), 4), (0, 0, 0, 6)], [(4, 5, (-2)), (5, 4, 7)], [(3, 5, (5, 0))], [], [(1, (4, 0)), (0, (3, 0))], [(0, 3)], []), [], 0, 0, (735, [(1, 4)])),
  (47, ([(0, 0, 0, 0), (1, 0, 0, 0), (2, 0, (-1), (-1)), (2, 3, 0, 0), (0, 0, (-1), 5), (0, 0, 0, 4), (2, 20, 0, 0), (0, 0, 0, 6)], [(4, 7, (-1)), (5, 4, 0), (5, 7, (-2)), (7, 4, 6)], [(3, 0, (6, 0)), (3, 5, (7, 0))], [], [(2, (4, 0)), (1, (5, 0)), (0, (3, 0))], [(0, 3)], []), [], 0, 0, (392, [(7, 4)])),
  (91, ([(0, 0, 0, 0), (1, 0, 0, 0), (2, 0, (-1), (-1)), (2, 3, 0, 0), (0, 0, 1, 5), (0, 0, (-1), 5), (2, 20, 0, 0), (0, 0, 0, 6)], [(4, 5, 1), (5, 7, (-1)), (7, 5, 5)], [(3, 0, (6, 0)), (3, 5, (7, 0))], [], [(4, (4, 0)), (3, (5, 0)), (0, (3, 0))], [(0, 3)], []), [], 0, 0, (49, [(49, 5)]))]) (fuel := 322) (pl := 1176) (by decide +kernel) (by decide +kernel) zd_X3_isNextRow (by
  intro K h
  rw [List.mem_singleton.mp h]
  exact zq_255 hW)
/-- X3_isFound -/
noncomputable def zK_257 : zk_K := (zt_mn 140, prog_5_method_2_code, 7, (Option.some Jvm.ClassFile.FieldType.boolean), 1, 3, [(2, 3, 0, 0), (2, 10, 0, 0), (2, 0, 0, 0), (0, 0, (-2147483648), 2147483647)], [(some (0, 0, 0, 0), []), (some (0, 0, 1, 1), [])], [(3, 5, 0), (20, 1002, 0), (27, 1002, 0), (28, 1002, 0), (21, 1002, 0), (3, 6, 0), (22, 1002, 0), (23, 1002, 0), (24, 1001, 0)], (4, 131, 0, 0))
theorem zq_257 {l : Launch} {w : zk_W} (hW : zh_W w) : zh_K l w zK_257 := zh_meth hW (lk := [(2, 27, 3, 5, 0), (2, 37, 9, 3, 0), (2, 40, 9, 4, 34), (2, 11, 3, 0, 18), (2, 15, 3, 1, 18), (2, 53, 3, 6, 0), (2, 24, 3, 4, 18), (8, 68, 0, 0, 0)]) (KS := [zK_23, zK_22, zK_239, zK_250, zK_253, zK_254, zK_256]) (km := [24, 25, 129, 141, 142, 145, 146]) (lc := [(0, 31, 24), (0, 43, 25), (0, 47, 129), (0, 56, 141), (0, 60, 142), (0, 64, 145), (0, 74, 146)]) (CL0 := zc_X3_isFound) (ns := [(50, 1, []), (112, 2, []), (150, 3, []), (155, 4, []), (160, 5, []), (196, 6, [])]) (AN := [(20, ([(0, 0, 0, 0), (1, 0, 0, 0), (2, 0, (-1), (-1)), (2, 3, 0, 0), (2, 10, 0, 0), (2, 0, 0, 0), (0, 0, (-2147483648), 2147483647), (0, 0, 0, 10), (0, 0, 0, 6)], [(8, 7, 0)], [(3, 5, (8, 0))], [], [(4, (7, 0)), (0, (3, 0)), (1, (4, 0)), (2, (5, 0)), (3, (6, 0))], [(0, 3), (1, 4), (2, 5), (3, 6)], []), [], 0, 0, (594550, [((-1), 7)])),
  (95, ([(0, 0, 0, 0), (1, 0, 0, 0), (2, 0, (-1), (-1)), (2, 3, 0, 0), (2, 10, 0, 0), (2, 0, 0, 0), (0, 0, (-2147483648), 2147483647), (0, 0, 0, 24), (0, 0, 0, 6), (0, 0, 0, 10)], [], [(3, 5, (8, 0)), (4, 3, (9, 0))], [], [(4, (7, 0)), (0, (3, 0)), (1, (4, 0)), (2, (5, 0)), (3, (6, 0))], [(0, 3), (1, 4), (2, 5), (3, 6)], []), [], 0, 0, (396275, [((-11), 7)])),
  (133, ([(0, 0, 0, 0), (1, 0, 0, 0), (2, 0, (-1), (-1)), (2, 3, 0, 0), (2, 10, 0, 0), (2, 0, 0, 0), (0, 0, (-2147483648), 2147483647), (0, 0, 0, 720), (0, 0, 0, 1), (0, 0, (-1), 2147483647), (0, 0, 0, 6), (0, 0, 0, 10)], [], [(3, 6, (9, 0)), (3, 5, (10, 0)), (4, 3, (11, 0))], [], [(5, (7, 0)), (4, (8, 0)), (0, (3, 0)), (1, (4, 0)), (2, (5, 0)), (3, (6, 0))], [(0, 3), (1, 4), (2, 5), (3, 6)], []), [], 0, 0, (198000, [((-275), 7)]))]) (fuel := 482) (pl := 1146) (by decide +kernel) (by decide +kernel) zd_X3_isFound (by
  intro K h
  rcases List.mem_cons.mp h with rfl | h
  · exact zq_23 hW
  rcases List.mem_cons.mp h with rfl | h
  · exact zq_22 hW
  rcases List.mem_cons.mp h with rfl | h
  · exact zq_239 hW
  rcases List.mem_cons.mp h with rfl | h
  · exact zq_250 hW
  rcases List.mem_cons.mp h with rfl | h
  · exact zq_253 hW
  rcases List.mem_cons.mp h with rfl | h
  · exact zq_254 hW
  rw [List.mem_singleton.mp h]
  exact zq_256 hW)
/-- X11_orderly -/
noncomputable def zK_258 : zk_K := (zt_mn 139, prog_1_method_35_code, 4, (Option.some Jvm.ClassFile.FieldType.int), 1, 11, [(2, 12, 0, 0), (0, 0, (-2147483648), 2147483647), (0, 0, (-2147483648), 2147483647), (0, 0, (-2147483648), 2147483647)], [(some (0, 0, (-1), (-1)), []), (some (0, 0, (-2147483648), 2147483647), [(1, 2, 5), (1, 3, 6), (1, 4, 2147483653), (1, 99, 5), (2, 1, 12), (2, 3, 13), (2, 4, 2147483660), (2, 99, 12), (3, 1, 5), (3, 2, 5), (3, 4, 2147483653), (3, 99, 5), (4, 1, 2147483647), (4, 2, 2147483647), (4, 3, 2147483648), (99, 1, 0), (99, 2, 0), (99, 3, 1)])], [(0, 1, 0), (0, 2, 0), (6, 2, 0), (27, 1002, 0), (14, 1002, 0), (28, 1002, 0), (15, 1001, 0), (16, 1002, 0), (3, 5, 0), (20, 1002, 0), (21, 1002, 0), (3, 6, 0), (22, 1002, 0), (23, 1002, 0), (24, 1001, 0)], (5, 157, 0, 0))
theorem zq_258 {l : Launch} {w : zk_W} (hW : zh_W w) : zh_K l w zK_258 := zh_meth hW (lk := [(2, 10, 11, 0, 18), (2, 39, 11, 4, 18), (2, 135, 9, 18, 34), (2, 46, 11, 5, 18), (2, 373, 3, 6, 0), (2, 375, 3, 5, 0), (2, 378, 3, 4, 34)]) (KS := [zK_19, zK_165, zK_241, zK_257, zK_12]) (km := [22, 86, 131, 140, 15]) (lc := [(0, 131, 22), (1, 292, 86), (0, 350, 131), (0, 369, 140), (1, 107, 15)]) (CL0 := zc_X11_orderly) (ns := [(12, 1, []), (36, 2, []), (52, 3, []), (84, 4, [])]) (AN := []) (fuel := 266) (pl := 1142) (by decide +kernel) (by decide +kernel) zd_X11_orderly (by
  intro K h
  rcases List.mem_cons.mp h with rfl | h
  · exact zq_19 hW
  rcases List.mem_cons.mp h with rfl | h
  · exact zq_165 hW
  rcases List.mem_cons.mp h with rfl | h
  · exact zq_241 hW
  rcases List.mem_cons.mp h with rfl | h
  · exact zq_257 hW
  rw [List.mem_singleton.mp h]
  exact zq_12 hW)
/-- J6_bitCount_0f7a4 -/
noncomputable def zK_267 : zk_K := (zt_mn 158, prog_15_method_49_code, 1, (Option.some Jvm.ClassFile.FieldType.int), 0, 0, [(0, 0, (-2147483648), 2147483647)], [(some (0, 0, 0, 63), [])], [], (0, 0, 0, 0))
theorem zq_267 {l : Launch} {w : zk_W} (hW : zh_W w) : zh_K l w zK_267 := zh_meth hW (lk := [(0, 265, 0, 0, 1431655765), (0, 266, 0, 0, 858993459), (0, 267, 0, 0, 252645135)]) (KS := []) (km := []) (lc := []) (CL0 := zc_J6_bitCount_0f7a4) (ns := []) (AN := []) (fuel := 218) (pl := 1230) (by decide +kernel) (by decide +kernel) zd_J6_bitCount_0f7a4 (fun K h => nomatch h)
/-- X4_isGuarded -/
noncomputable def zK_268 : zk_K := (zt_mn 159, prog_6_method_3_code, 4, (Option.some Jvm.ClassFile.FieldType.boolean), 0, 4, [(2, 42, 0, 0), (0, 0, (-2147483648), 2147483647)], [(some (0, 0, 0, 0), []), (some (0, 0, 1, 1), [])], [], (0, 0, 0, 0))
theorem zq_268 {l : Launch} {w : zk_W} (hW : zh_W w) : zh_K l w zK_268 := zh_meth hW (lk := []) (KS := []) (km := []) (lc := []) (CL0 := zc_X4_isGuarded) (ns := [(5, 1, []), (25, 1, []), (31, 1, [])]) (AN := [(2, ([(0, 0, 0, 0), (1, 0, 0, 0), (2, 0, (-1), (-1)), (2, 42, 0, 0), (0, 0, (-2147483648), 2147483647), (0, 0, 0, 400)], [], [], [], [(2, (5, 0)), (0, (3, 0)), (1, (4, 0))], [(0, 3), (1, 4)], []), [], 0, 0, (400, [((-1), 5)]))]) (fuel := 178) (pl := 1236) (by decide +kernel) (by decide +kernel) zd_X4_isGuarded (fun K h => nomatch h)
/-- X4_fewestGuards -/
noncomputable def zK_269 : zk_K := (zt_mn 157, prog_6_method_2_code, 4, (Option.some Jvm.ClassFile.FieldType.int), 1, 4, [(2, 4, 0, 0), (2, 42, 0, 0)], [(some (0, 0, 0, 255), [])], [], (1, 23, 0, 0))
theorem zq_269 {l : Launch} {w : zk_W} (hW : zh_W w) : zh_K l w zK_269 := zh_meth hW (lk := []) (KS := [zK_267, zK_268]) (km := [158, 159]) (lc := [(1, 18, 158), (1, 24, 159)]) (CL0 := zc_X4_fewestGuards) (ns := [(23, 1, [])]) (AN := [(6, ([(0, 0, 0, 0), (1, 0, 0, 0), (2, 0, (-1), (-1)), (2, 4, 0, 0), (2, 42, 0, 0), (0, 0, (-1), 255), (0, 0, 0, 255)], [(5, 6, 0)], [], [], [(3, (5, 0)), (2, (6, 0)), (0, (3, 0)), (1, (4, 0))], [(0, 3), (1, 4)], []), [], 0, 0, (1, [(1, 5)]))]) (fuel := 134) (pl := 1227) (by decide +kernel) (by decide +kernel) zd_X4_fewestGuards (by
  intro K h
  rcases List.mem_cons.mp h with rfl | h
  · exact zq_267 hW
  rw [List.mem_singleton.mp h]
  exact zq_268 hW)
