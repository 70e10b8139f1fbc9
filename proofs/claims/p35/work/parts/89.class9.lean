/-! part 69: contracts of the class, by the checker -/
/-- X4_way -/
def zK_271 : zk_K := (zt_mn 163, prog_6_method_6_code, 4, (Option.some Jvm.ClassFile.FieldType.int), 1, 4, [(2, 4, 0, 0), (0, 0, (-2147483648), 2147483647), (0, 0, (-2147483648), 2147483647)], [(some (0, 0, (-2147483648), 2147483647), [])], [], (0, 0, 0, 0))
theorem zq_271 {l : Launch} {w : zk_W} (hW : zh_W w) : zh_K l w zK_271 := zh_meth hW (lk := [(2, 11, 4, 0, 18), (0, 39, 0, 0, 1000000)]) (KS := []) (km := []) (lc := []) (CL0 := zc_X4_way) (ns := []) (AN := []) (fuel := 130) (pl := 1254) (by decide +kernel) (by decide +kernel) zd_X4_way (fun K h => nomatch h)
/-- X4_measureWays -/
def zK_272 : zk_K := (zt_mn 162, prog_6_method_5_code, 6, (Option.none : Option Jvm.ClassFile.FieldType), 1, 4, [(2, 4, 0, 0), (2, 42, 0, 0)], [(none, [])], [(25, 1002, 0)], (1, 60, 0, 0))
theorem zq_272 {l : Launch} {w : zk_W} (hW : zh_W w) : zh_K l w zK_272 := zh_meth hW (lk := [(2, 11, 4, 0, 18), (0, 39, 0, 0, 1000000), (6, 40, 1, 0, 0)]) (KS := [zK_271]) (km := [163]) (lc := [(0, 32, 163)]) (CL0 := zc_X4_measureWays) (ns := [(8, 1, []), (14, 1, []), (20, 1, []), (45, 1, []), (65, 1, []), (73, 1, []), (83, 1, [])]) (AN := [(2, ([(0, 0, 0, 0), (1, 0, 0, 0), (2, 0, (-1), (-1)), (2, 4, 0, 0), (2, 42, 0, 0), (0, 0, 0, 400)], [], [], [], [(2, (5, 0)), (0, (3, 0)), (1, (4, 0))], [(0, 3), (1, 4)], []), [], 0, 0, (2143746, [((-1), 5)])),
  (62, ([(0, 0, 0, 0), (1, 0, 0, 0), (2, 0, (-1), (-1)), (2, 4, 0, 0), (2, 42, 0, 0), (0, 0, 0, 8), (2, 25, 0, 0), (0, 0, 64, 64)], [], [(3, 0, (6, 0)), (6, 1000, (7, 0))], [], [(2, (5, 0)), (0, (3, 0))], [(0, 3), (1, 4)], []), [], 0, 0, (1039392, [((-129924), 5)])),
  (70, ([(0, 0, 0, 0), (1, 0, 0, 0), (2, 0, (-1), (-1)), (2, 4, 0, 0), (2, 42, 0, 0), (0, 0, 0, 8), (0, 0, 0, 7), (2, 25, 0, 0), (0, 0, 64, 64)], [], [(3, 0, (7, 0)), (7, 1000, (8, 0))], [], [(3, (5, 0)), (2, (6, 0)), (0, (3, 0))], [(0, 3), (1, 4)], []), [], 0, 0, (978039, [((-7218), 5), ((-129924), 6)])),
  (79, ([(0, 0, 0, 0), (1, 0, 0, 0), (2, 0, (-1), (-1)), (2, 4, 0, 0), (2, 42, 0, 0), (0, 0, 0, 8), (0, 0, 0, 7), (0, 0, 0, 7), (2, 25, 0, 0), (0, 0, 64, 64)], [], [(3, 0, (8, 0)), (8, 1000, (9, 0))], [], [(4, (5, 0)), (3, (6, 0)), (2, (7, 0)), (0, (3, 0))], [(0, 3), (1, 4)], []), [], 0, 0, (974430, [((-401), 5), ((-7218), 6), ((-129924), 7)]))]) (fuel := 382) (pl := 1249) (by decide +kernel) (by decide +kernel) zd_X4_measureWays (by
  intro K h
  rw [List.mem_singleton.mp h]
  exact zq_271 hW)
/-- X4_by -/
def zK_273 : zk_K := (zt_mn 165, prog_6_method_8_code, 5, (Option.some Jvm.ClassFile.FieldType.int), 1, 4, [(2, 4, 0, 0), (0, 0, (-2147483648), 2147483647), (0, 0, (-2147483648), 2147483647), (0, 0, (-2147483648), 2147483647)], [(some (0, 0, (-2147483648), 2147483647), [])], [], (1, 23, 0, 0))
theorem zq_273 {l : Launch} {w : zk_W} (hW : zh_W w) : zh_K l w zK_273 := zh_meth hW (lk := [(2, 15, 4, 1, 18), (0, 39, 0, 0, 1000000)]) (KS := [zK_271]) (km := [163]) (lc := [(0, 32, 163)]) (CL0 := zc_X4_by) (ns := []) (AN := []) (fuel := 174) (pl := 1264) (by decide +kernel) (by decide +kernel) zd_X4_by (by
  intro K h
  rw [List.mem_singleton.mp h]
  exact zq_271 hW)
/-- X4_leastOf -/
def zK_274 : zk_K := (zt_mn 164, prog_6_method_7_code, 5, (Option.some Jvm.ClassFile.FieldType.int), 1, 4, [(2, 4, 0, 0), (0, 0, (-2147483648), 2147483647), (0, 0, (-2147483648), 2147483647)], [(some (0, 0, (-2147483648), 100000000), [])], [], (2, 60, 0, 0))
theorem zq_274 {l : Launch} {w : zk_W} (hW : zh_W w) : zh_K l w zK_274 := zh_meth hW (lk := [(0, 45, 0, 0, 100000000), (6, 40, 1, 0, 0)]) (KS := [zK_273]) (km := [165]) (lc := [(0, 46, 165)]) (CL0 := zc_X4_leastOf) (ns := []) (AN := [(6, ([(0, 0, 0, 0), (1, 0, 0, 0), (2, 0, (-1), (-1)), (2, 4, 0, 0), (0, 0, (-2147483648), 2147483647), (0, 0, (-2147483648), 2147483647), (0, 0, 0, 8), (0, 0, (-2147483648), 100000000)], [], [], [], [(4, (6, 0)), (3, (7, 0)), (0, (3, 0)), (1, (4, 0)), (2, (5, 0))], [(0, 3), (1, 4), (2, 5)], []), [], 0, 0, (8, [((-1), 6)]))]) (fuel := 154) (pl := 1259) (by decide +kernel) (by decide +kernel) zd_X4_leastOf (by
  intro K h
  rw [List.mem_singleton.mp h]
  exact zq_273 hW)
/-- X4_measure -/
def zK_275 : zk_K := (zt_mn 161, prog_6_method_4_code, 5, (Option.none : Option Jvm.ClassFile.FieldType), 1, 4, [(2, 4, 0, 0), (2, 42, 0, 0), (0, 0, (-2147483648), 2147483647)], [(none, [])], [(25, 1002, 0), (26, 1002, 0), (26, 1001, 0)], (3, 85, 0, 0))
theorem zq_275 {l : Launch} {w : zk_W} (hW : zh_W w) : zh_K l w zK_275 := zh_meth hW (lk := [(2, 15, 4, 1, 18)]) (KS := [zK_272, zK_271, zK_274]) (km := [162, 163, 164]) (lc := [(0, 28, 162), (0, 32, 163), (0, 36, 164)]) (CL0 := zc_X4_measure) (ns := [(59, 1, []), (69, 2, [])]) (AN := [(7, ([(0, 0, 0, 0), (1, 0, 0, 0), (2, 0, (-1), (-1)), (2, 4, 0, 0), (2, 42, 0, 0), (0, 0, (-2147483648), 2147483647), (0, 0, 0, 256)], [(6, 5, 2147483649)], [], [], [(3, (6, 0)), (0, (3, 0)), (2, (5, 0))], [(0, 3), (1, 4), (2, 5)], []), [], 0, 0, (4608, [((-18), 6)])),
  (33, ([(0, 0, 0, 0), (1, 0, 0, 0), (2, 0, (-1), (-1)), (2, 4, 0, 0), (2, 42, 0, 0), (0, 0, 0, 2147483647), (0, 0, 0, 8), (0, 0, 0, 255)], [(7, 5, 0)], [], [], [(4, (6, 0)), (3, (7, 0)), (0, (3, 0)), (2, (5, 0))], [(0, 3), (1, 4), (2, 5)], []), [], 0, 0, (4599, [((-1), 6), ((-18), 7)]))]) (fuel := 238) (pl := 1245) (by decide +kernel) (by decide +kernel) zd_X4_measure (by
  intro K h
  rcases List.mem_cons.mp h with rfl | h
  · exact zq_272 hW
  rcases List.mem_cons.mp h with rfl | h
  · exact zq_271 hW
  rw [List.mem_singleton.mp h]
  exact zq_274 hW)
/-- X4_roundOf -/
def zK_276 : zk_K := (zt_mn 166, prog_6_method_9_code, 4, (Option.some Jvm.ClassFile.FieldType.int), 1, 4, [(2, 4, 0, 0), (0, 0, (-2147483648), 2147483647)], [(some (0, 0, (-1), (-1)), []), (some (0, 0, (-2147483648), 999999), [])], [], (0, 0, 0, 0))
theorem zq_276 {l : Launch} {w : zk_W} (hW : zh_W w) : zh_K l w zK_276 := zh_meth hW (lk := [(2, 15, 4, 1, 18), (0, 39, 0, 0, 1000000)]) (KS := []) (km := []) (lc := []) (CL0 := zc_X4_roundOf) (ns := []) (AN := []) (fuel := 150) (pl := 1268) (by decide +kernel) (by decide +kernel) zd_X4_roundOf (fun K h => nomatch h)
/-- X4_firstOf -/
def zK_277 : zk_K := (zt_mn 168, prog_6_method_11_code, 5, (Option.some Jvm.ClassFile.FieldType.int), 1, 4, [(2, 4, 0, 0), (0, 0, (-2147483648), 2147483647), (0, 0, (-2147483648), 2147483647)], [(some (0, 0, (-1), (-1)), []), (some (0, 0, 0, 7), [])], [], (3, 84, 0, 0))
theorem zq_277 {l : Launch} {w : zk_W} (hW : zh_W w) : zh_K l w zK_277 := zh_meth hW (lk := []) (KS := [zK_274, zK_273]) (km := [164, 165]) (lc := [(0, 36, 164), (0, 46, 165)]) (CL0 := zc_X4_firstOf) (ns := [(32, 1, [])]) (AN := [(10, ([(0, 0, 0, 0), (1, 0, 0, 0), (2, 0, (-1), (-1)), (2, 4, 0, 0), (0, 0, (-2147483648), 2147483647), (0, 0, (-2147483648), 2147483647), (0, 0, 0, 8), (0, 0, (-2147483648), 100000000)], [], [], [], [(4, (6, 0)), (3, (7, 0)), (0, (3, 0)), (1, (4, 0)), (2, (5, 0))], [(0, 3), (1, 4), (2, 5)], []), [], 0, 0, (8, [((-1), 6)]))]) (fuel := 170) (pl := 1276) (by decide +kernel) (by decide +kernel) zd_X4_firstOf (by
  intro K h
  rcases List.mem_cons.mp h with rfl | h
  · exact zq_274 hW
  rw [List.mem_singleton.mp h]
  exact zq_273 hW)
/-- X4_stop -/
def zK_278 : zk_K := (zt_mn 167, prog_6_method_10_code, 7, (Option.some Jvm.ClassFile.FieldType.int), 1, 4, [(2, 4, 0, 0), (0, 0, (-2147483648), 2147483647), (0, 0, (-2147483648), 2147483647)], [(some (0, 0, (-1), (-1)), [(1, 2, 2147483647), (3, 2, (-1)), (99, 2, 0)]), (some (0, 0, 0, 7), [])], [], (4, 108, 0, 0))
theorem zq_278 {l : Launch} {w : zk_W} (hW : zh_W w) : zh_K l w zK_278 := zh_meth hW (lk := []) (KS := [zK_277]) (km := [168]) (lc := [(0, 50, 168)]) (CL0 := zc_X4_stop) (ns := []) (AN := [(8, ([(0, 0, 0, 0), (1, 0, 0, 0), (2, 0, (-1), (-1)), (2, 4, 0, 0), (0, 0, (-2147483648), 2147483647), (0, 0, (-2147483648), 2147483647), (0, 0, 0, 8), (0, 0, 0, 7), (0, 0, (-2147483648), 2147483647)], [(6, 5, 2147483649), (7, 6, 6)], [], [], [(5, (6, 0)), (4, (7, 0)), (3, (8, 0)), (0, (3, 0)), (2, (5, 0))], [(0, 3), (1, 4), (2, 5)], []), [], 0, 0, (8, [((-1), 6)]))]) (fuel := 194) (pl := 1272) (by decide +kernel) (by decide +kernel) zd_X4_stop (by
  intro K h
  rw [List.mem_singleton.mp h]
  exact zq_277 hW)
/-- X11_round -/
def zK_279 : zk_K := (zt_mn 160, prog_1_method_43_code, 4, (Option.some Jvm.ClassFile.FieldType.int), 1, 11, [(2, 12, 0, 0), (0, 0, (-2147483648), 2147483647), (0, 0, (-2147483648), 2147483647)], [(some (0, 0, (-1), (-1)), []), (some (0, 0, (-2147483648), 999999), [(1, 2, 256), (1, 3, 2147483903), (1, 99, 255), (2, 1, 62), (2, 3, 2147483647), (2, 99, 62), (3, 1, 999999), (3, 2, 1000000), (99, 1, 0), (99, 2, 1)])], [(25, 1002, 0), (26, 1002, 0), (26, 1001, 0)], (5, 134, 0, 0))
theorem zq_279 {l : Launch} {w : zk_W} (hW : zh_W w) : zh_K l w zK_279 := zh_meth hW (lk := [(2, 53, 11, 6, 18), (2, 10, 11, 0, 18), (2, 115, 9, 0, 34)]) (KS := [zK_12, zK_267, zK_275, zK_276, zK_278]) (km := [15, 158, 161, 166, 167]) (lc := [(1, 107, 15), (1, 411, 158), (0, 416, 161), (0, 420, 166), (0, 423, 167)]) (CL0 := zc_X11_round) (ns := [(18, 1, []), (38, 2, []), (46, 3, []), (70, 4, [])]) (AN := []) (fuel := 210) (pl := 1241) (by decide +kernel) (by decide +kernel) zd_X11_round (by
  intro K h
  rcases List.mem_cons.mp h with rfl | h
  · exact zq_12 hW
  rcases List.mem_cons.mp h with rfl | h
  · exact zq_267 hW
  rcases List.mem_cons.mp h with rfl | h
  · exact zq_275 hW
  rcases List.mem_cons.mp h with rfl | h
  · exact zq_276 hW
  rw [List.mem_singleton.mp h]
  exact zq_278 hW)
/-- X1_draw -/
def zK_281 : zk_K := (zt_mn 173, prog_3_method_4_code, 2, (Option.some Jvm.ClassFile.FieldType.int), 1, 1, [(2, 1, 0, 0), (0, 0, (-2147483648), 2147483647)], [(some (0, 0, (-2147483648), 2147483647), [(2, 1, 2147483648)])], [(1, 1, 0)], (0, 0, 0, 0))
theorem zq_281 {l : Launch} {w : zk_W} (hW : zh_W w) : zh_K l w zK_281 := zh_meth hW (lk := [(2, 30, 1, 1, 0), (0, 87, 0, 0, 1000003)]) (KS := []) (km := []) (lc := []) (CL0 := zc_X1_draw) (ns := [(20, 1, [])]) (AN := []) (fuel := 126) (pl := 1298) (by decide +kernel) (by decide +kernel) zd_X1_draw (fun K h => nomatch h)
/-- X1_windByDraws -/
def zK_282 : zk_K := (zt_mn 172, prog_3_method_3_code, 4, (Option.none : Option Jvm.ClassFile.FieldType), 1, 1, [(2, 1, 0, 0), (2, 10, 0, 0), (2, 6, 0, 0)], [(none, [])], [(1, 1, 0), (6, 2, 0), (27, 1002, 0), (28, 1002, 0), (2, 3, 0), (2, 4, 0), (2, 5, 0)], (3, 104, 0, 0))
theorem zq_282 {l : Launch} {w : zk_W} (hW : zh_W w) : zh_K l w zK_282 := zh_meth hW (lk := [(2, 12, 1, 0, 18), (6, 64, 1, 0, 0), (2, 42, 2, 4, 3)]) (KS := [zK_281, zK_166, zK_185, zK_214, zK_191, zK_193]) (km := [173, 87, 90, 119, 92, 99]) (lc := [(0, 56, 173), (0, 60, 87), (0, 70, 90), (0, 76, 119), (0, 80, 92), (0, 83, 99)]) (CL0 := zc_X1_windByDraws) (ns := [(11, 1, []), (25, 2, []), (35, 3, []), (58, 4, []), (61, 5, [])]) (AN := []) (fuel := 182) (pl := 1294) (by decide +kernel) (by decide +kernel) zd_X1_windByDraws (by
  intro K h
  rcases List.mem_cons.mp h with rfl | h
  · exact zq_281 hW
  rcases List.mem_cons.mp h with rfl | h
  · exact zq_166 hW
  rcases List.mem_cons.mp h with rfl | h
  · exact zq_185 hW
  rcases List.mem_cons.mp h with rfl | h
  · exact zq_214 hW
  rcases List.mem_cons.mp h with rfl | h
  · exact zq_191 hW
  rw [List.mem_singleton.mp h]
  exact zq_193 hW)
/-- X1_play -/
def zK_283 : zk_K := (zt_mn 171, prog_3_method_2_code, 8, (Option.some Jvm.ClassFile.FieldType.int), 1, 1, [(2, 1, 0, 0), (2, 10, 0, 0), (2, 0, 0, 0), (2, 6, 0, 0), (0, 0, (-2147483648), 2147483647), (0, 0, (-2147483648), 2147483647)], [(some (0, 0, (-2147483648), 2147483647), [])], [(17, 1001, 0), (18, 1001, 0), (19, 1001, 0), (2, 3, 0), (2, 4, 0), (2, 5, 0), (2, 6, 0), (1, 3, 0), (1, 1, 0), (1, 2, 0), (0, 1, 0), (0, 2, 0), (6, 2, 0), (27, 1002, 0), (14, 1002, 0), (28, 1002, 0), (15, 1001, 0), (16, 1002, 0)], (5, 157, 0, 0))
theorem zq_283 {l : Launch} {w : zk_W} (hW : zh_W w) : zh_K l w zK_283 := zh_meth hW (lk := [(2, 12, 1, 0, 18), (2, 22, 9, 18, 34), (2, 29, 9, 3, 0), (2, 18, 1, 3, 0), (2, 30, 1, 1, 0), (2, 33, 1, 2, 0), (2, 36, 2, 6, 0), (2, 39, 2, 5, 0), (2, 42, 2, 4, 3)]) (KS := [zK_161, zK_282, zK_206]) (km := [80, 172, 104]) (lc := [(0, 25, 80), (0, 46, 172), (0, 50, 104)]) (CL0 := zc_X1_play) (ns := [(80, 1, []), (118, 2, [])]) (AN := [(36, ([(0, 0, 0, 0), (1, 0, 0, 0), (2, 0, (-1), (-1)), (2, 1, 0, 0), (2, 10, 0, 0), (2, 0, 0, 0), (2, 6, 0, 0), (0, 0, (-2147483648), 2147483647), (0, 0, (-2147483648), 2147483647), (0, 0, 0, 2147483647), (0, 0, (-2147483648), 2147483647), (0, 0, (-2147483648), 2147483647), (0, 0, 0, 10), (2, 2, 0, 0), (2, 2, 0, 0)], [(9, 8, 2147483649), (10, 9, 2147483646), (11, 9, 2147483646)], [(3, 2, (11, 0)), (3, 3, (12, 0)), (3, 0, (13, 0)), (4, 3, (12, 0)), (4, 18, (14, 0))], [], [(7, (9, 0)), (6, (10, 0)), (0, (3, 0)), (1, (4, 0)), (2, (5, 0)), (3, (6, 0)), (5, (8, 0))], [(0, 3), (1, 4), (2, 5), (3, 6), (4, 7), (5, 8)], []), [], 0, 0, (2147483647, [((-1), 9)]))]) (fuel := 334) (pl := 1289) (by decide +kernel) (by decide +kernel) zd_X1_play (by
  intro K h
  rcases List.mem_cons.mp h with rfl | h
  · exact zq_161 hW
  rcases List.mem_cons.mp h with rfl | h
  · exact zq_282 hW
  rw [List.mem_singleton.mp h]
  exact zq_206 hW)
/-- X11_decade -/
def zK_284 : zk_K := (zt_mn 170, prog_1_method_45_code, 3, (Option.some Jvm.ClassFile.FieldType.int), 1, 11, [(2, 12, 0, 0), (0, 0, (-2147483648), 2147483647), (0, 0, (-2147483648), 2147483647)], [(some (0, 0, (-1), (-1)), []), (some (0, 0, (-2147483648), 2147483647), [(1, 2, 999999), (1, 3, 2148483648), (1, 99, 1000000), (2, 1, 60), (2, 3, 2147483708), (2, 99, 60), (3, 1, 2147483647), (3, 2, 2147483646), (99, 1, 0), (99, 2, (-1))])], [(12, 18, 0), (57, 1002, 0), (17, 1001, 0), (18, 1001, 0), (19, 1001, 0), (2, 3, 0), (2, 4, 0), (2, 5, 0), (2, 6, 0), (1, 3, 0), (1, 1, 0), (1, 2, 0), (0, 1, 0), (0, 2, 0), (6, 2, 0), (27, 1002, 0), (14, 1002, 0), (28, 1002, 0), (15, 1001, 0), (16, 1002, 0)], (6, 184, 0, 0))
theorem zq_284 {l : Launch} {w : zk_W} (hW : zh_W w) : zh_K l w zK_284 := zh_meth hW (lk := [(0, 426, 0, 0, 1000000), (2, 60, 11, 7, 18), (2, 10, 11, 0, 18), (2, 39, 11, 4, 18), (2, 30, 11, 3, 18)]) (KS := [zK_12, zK_13, zK_283, zK_14]) (km := [15, 16, 171, 17]) (lc := [(1, 107, 15), (0, 111, 16), (0, 427, 171), (0, 118, 17)]) (CL0 := zc_X11_decade) (ns := [(23, 1, []), (46, 2, []), (49, 3, [])]) (AN := []) (fuel := 162) (pl := 1284) (by decide +kernel) (by decide +kernel) zd_X11_decade (by
  intro K h
  rcases List.mem_cons.mp h with rfl | h
  · exact zq_12 hW
  rcases List.mem_cons.mp h with rfl | h
  · exact zq_13 hW
  rcases List.mem_cons.mp h with rfl | h
  · exact zq_283 hW
  rw [List.mem_singleton.mp h]
  exact zq_14 hW)
/-- X1_told -/
def zK_285 : zk_K := (zt_mn 175, prog_3_method_5_code, 2, (Option.some Jvm.ClassFile.FieldType.int), 1, 1, [(2, 1, 0, 0), (0, 0, (-2147483648), 2147483647)], [(some (0, 0, (-1), (-1)), []), (some (0, 0, (-2147483648), 2147483647), [(1, 2, 2147483661), (1, 99, 13), (2, 1, 2147483647), (99, 1, 0)])], [], (0, 0, 0, 0))
theorem zq_285 {l : Launch} {w : zk_W} (hW : zh_W w) : zh_K l w zK_285 := zh_meth hW (lk := [(2, 18, 1, 3, 0), (2, 12, 1, 0, 18), (2, 88, 2, 3, 0), (2, 42, 2, 4, 3), (2, 36, 2, 6, 0), (2, 33, 1, 2, 0), (2, 91, 2, 2, 34)]) (KS := []) (km := []) (lc := []) (CL0 := zc_X1_told) (ns := []) (AN := []) (fuel := 254) (pl := 1314) (by decide +kernel) (by decide +kernel) zd_X1_told (fun K h => nomatch h)
/-- X11_drawn -/
def zK_286 : zk_K := (zt_mn 174, prog_1_method_46_code, 2, (Option.some Jvm.ClassFile.FieldType.int), 1, 11, [(2, 12, 0, 0), (0, 0, (-2147483648), 2147483647)], [(some (0, 0, (-1), (-1)), []), (some (0, 0, (-2147483648), 2147483647), [(1, 2, 2147483661), (1, 99, 13), (2, 1, 2147483647), (99, 1, 0)])], [], (1, 21, 0, 0))
theorem zq_286 {l : Launch} {w : zk_W} (hW : zh_W w) : zh_K l w zK_286 := zh_meth hW (lk := [(2, 60, 11, 7, 18)]) (KS := [zK_285]) (km := [175]) (lc := [(0, 431, 175)]) (CL0 := zc_X11_drawn) (ns := []) (AN := []) (fuel := 70) (pl := 1310) (by decide +kernel) (by decide +kernel) zd_X11_drawn (by
  intro K h
  rw [List.mem_singleton.mp h]
  exact zq_285 hW)
/-- X11_count -/
def zK_290 : zk_K := (zt_mn 179, prog_1_method_49_code, 2, (Option.some Jvm.ClassFile.FieldType.int), 1, 11, [(2, 12, 0, 0), (0, 0, (-2147483648), 2147483647)], [(some (0, 0, (-1), (-1)), []), (some (0, 0, (-2147483648), 2147483647), [(1, 2, 2147483665), (1, 99, 17), (2, 1, 2147483641), (99, 1, 0)])], [], (0, 0, 0, 0))
theorem zq_290 {l : Launch} {w : zk_W} (hW : zh_W w) : zh_K l w zK_290 := zh_meth hW (lk := [(2, 10, 11, 0, 18), (2, 121, 9, 1, 0), (2, 153, 9, 3, 0), (2, 396, 9, 9, 0), (2, 205, 9, 14, 0), (2, 23, 11, 2, 18), (2, 437, 10, 3, 0), (2, 67, 11, 8, 18), (2, 193, 7, 1, 0), (2, 104, 11, 19, 18), (2, 289, 9, 15, 0), (2, 135, 9, 18, 34), (2, 283, 2, 3, 0), (2, 308, 2, 4, 3), (2, 280, 2, 5, 0), (2, 178, 2, 6, 0), (2, 180, 9, 16, 0), (2, 183, 9, 17, 0)]) (KS := []) (km := []) (lc := []) (CL0 := zc_X11_count) (ns := []) (AN := []) (fuel := 406) (pl := 1332) (by decide +kernel) (by decide +kernel) zd_X11_count (fun K h => nomatch h)
/-- X11_status -/
def zK_291 : zk_K := (zt_mn 180, prog_1_method_50_code, 1, (Option.some Jvm.ClassFile.FieldType.int), 1, 11, [(2, 12, 0, 0)], [(some (0, 0, (-2147483648), 2147483647), [])], [], (0, 0, 0, 0))
theorem zq_291 {l : Launch} {w : zk_W} (hW : zh_W w) : zh_K l w zK_291 := zh_meth hW (lk := [(2, 438, 11, 18, 0)]) (KS := []) (km := []) (lc := []) (CL0 := zc_X11_status) (ns := []) (AN := []) (fuel := 62) (pl := 1336) (by decide +kernel) (by decide +kernel) zd_X11_status (fun K h => nomatch h)
