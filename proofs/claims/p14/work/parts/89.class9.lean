/-! part 69: contracts of the class, by the checker -/
/-- X11_guards -/
noncomputable def zK_270 : zk_K := (zt_mn 156, prog_1_method_42_code, 3, (Option.some Jvm.ClassFile.FieldType.int), 1, 11, [(2, 12, 0, 0), (0, 0, (-2147483648), 2147483647)], [(some (0, 0, (-1), (-1)), []), (some (0, 0, 0, 255), [(1, 2, 1), (1, 99, 1), (2, 1, 254), (99, 1, 0)])], [], (2, 46, 0, 0))
theorem zq_270 {l : Launch} {w : zk_W} (hW : zh_W w) : zh_K l w zK_270 := zh_meth hW (lk := [(2, 53, 11, 6, 18), (2, 10, 11, 0, 18), (2, 115, 9, 0, 34)]) (KS := [zK_269, zK_267]) (km := [157, 158]) (lc := [(0, 407, 157), (1, 411, 158)]) (CL0 := zc_X11_guards) (ns := [(45, 1, [])]) (AN := []) (fuel := 114) (pl := 1223) (by decide +kernel) (by decide +kernel) zd_X11_guards (by
  intro K h
  rcases List.mem_cons.mp h with rfl | h
  · exact zq_269 hW
  rw [List.mem_singleton.mp h]
  exact zq_267 hW)
/-- X4_way -/
noncomputable def zK_271 : zk_K := (zt_mn 163, prog_6_method_6_code, 4, (Option.some Jvm.ClassFile.FieldType.int), 1, 4, [(2, 4, 0, 0), (0, 0, (-2147483648), 2147483647), (0, 0, (-2147483648), 2147483647)], [(some (0, 0, (-2147483648), 2147483647), [])], [], (0, 0, 0, 0))
theorem zq_271 {l : Launch} {w : zk_W} (hW : zh_W w) : zh_K l w zK_271 := zh_meth hW (lk := [(2, 11, 4, 0, 18), (0, 39, 0, 0, 1000000)]) (KS := []) (km := []) (lc := []) (CL0 := zc_X4_way) (ns := []) (AN := []) (fuel := 130) (pl := 1254) (by decide +kernel) (by decide +kernel) zd_X4_way (fun K h => nomatch h)
/-- X4_measureWays -/
noncomputable def zK_272 : zk_K := (zt_mn 162, prog_6_method_5_code, 6, (Option.none : Option Jvm.ClassFile.FieldType), 1, 4, [(2, 4, 0, 0), (2, 42, 0, 0)], [(none, [])], [(25, 1002, 0)], (1, 60, 0, 0))
theorem zq_272 {l : Launch} {w : zk_W} (hW : zh_W w) : zh_K l w zK_272 := zh_meth hW (lk := [(2, 11, 4, 0, 18), (0, 39, 0, 0, 1000000), (6, 40, 1, 0, 0)]) (KS := [zK_271]) (km := [163]) (lc := [(0, 32, 163)]) (CL0 := zc_X4_measureWays) (ns := [(8, 1, []), (14, 1, []), (20, 1, []), (45, 1, []), (65, 1, []), (73, 1, []), (83, 1, [])]) (AN := [(2, ([(0, 0, 0, 0), (1, 0, 0, 0), (2, 0, (-1), (-1)), (2, 4, 0, 0), (2, 42, 0, 0), (0, 0, 0, 400)], [], [], [], [(2, (5, 0)), (0, (3, 0)), (1, (4, 0))], [(0, 3), (1, 4)], []), [], 0, 0, (2143746, [((-1), 5)])),
  (62, ([(0, 0, 0, 0), (1, 0, 0, 0), (2, 0, (-1), (-1)), (2, 4, 0, 0), (2, 42, 0, 0), (0, 0, 0, 8), (2, 25, 0, 0), (0, 0, 64, 64)], [], [(3, 0, (6, 0)), (6, 1000, (7, 0))], [], [(2, (5, 0)), (0, (3, 0))], [(0, 3), (1, 4)], []), [], 0, 0, (1039392, [((-129924), 5)])),
  (70, ([(0, 0, 0, 0), (1, 0, 0, 0), (2, 0, (-1), (-1)), (2, 4, 0, 0), (2, 42, 0, 0), (0, 0, 0, 8), (0, 0, 0, 7), (2, 25, 0, 0), (0, 0, 64, 64)], [], [(3, 0, (7, 0)), (7, 1000, (8, 0))], [], [(3, (5, 0)), (2, (6, 0)), (0, (3, 0))], [(0, 3), (1, 4)], []), [], 0, 0, (978039, [((-7218), 5), ((-129924), 6)])),
  (79, ([(0, 0, 0, 0), (1, 0, 0, 0), (2, 0, (-1), (-1)), (2, 4, 0, 0), (2, 42, 0, 0), (0, 0, 0, 8), (0, 0, 0, 7), (0, 0, 0, 7), (2, 25, 0, 0), (0, 0, 64, 64)], [], [(3, 0, (8, 0)), (8, 1000, (9, 0))], [], [(4, (5, 0)), (3, (6, 0)), (2, (7, 0)), (0, (3, 0))], [(0, 3), (1, 4)], []), [], 0, 0, (974430, [((-401), 5), ((-7218), 6), ((-129924), 7)]))]) (fuel := 382) (pl := 1249) (by decide +kernel) (by decide +kernel) zd_X4_measureWays (by
  intro K h
  rw [List.mem_singleton.mp h]
  exact zq_271 hW)
/-- X4_by -/
noncomputable def zK_273 : zk_K := (zt_mn 165, prog_6_method_8_code, 5, (Option.some Jvm.ClassFile.FieldType.int), 1, 4, [(2, 4, 0, 0), (0, 0, (-2147483648), 2147483647), (0, 0, (-2147483648), 2147483647), (0, 0, (-2147483648), 2147483647)], [(some (0, 0, (-2147483648), 2147483647), [])], [], (1, 23, 0, 0))
theorem zq_273 {l : Launch} {w : zk_W} (hW : zh_W w) : zh_K l w zK_273 := zh_meth hW (lk := [(2, 15, 4, 1, 18), (0, 39, 0, 0, 1000000)]) (KS := [zK_271]) (km := [163]) (lc := [(0, 32, 163)]) (CL0 := zc_X4_by) (ns := []) (AN := []) (fuel := 174) (pl := 1264) (by decide +kernel) (by decide +kernel) zd_X4_by (by
  intro K h
  rw [List.mem_singleton.mp h]
  exact zq_271 hW)
/-- X4_leastOf -/
noncomputable def zK_274 : zk_K := (zt_mn 164, prog_6_method_7_code, 5, (Option.some Jvm.ClassFile.FieldType.int), 1, 4, [(2, 4, 0, 0), (0, 0, (-2147483648), 2147483647), (0, 0, (-2147483648), 2147483647)], [(some (0, 0, (-2147483648), 100000000), [])], [], (2, 60, 0, 0))
theorem zq_274 {l : Launch} {w : zk_W} (hW : zh_W w) : zh_K l w zK_274 := zh_meth hW (lk := [(0, 45, 0, 0, 100000000), (6, 40, 1, 0, 0)]) (KS := [zK_273]) (km := [165]) (lc := [(0, 46, 165)]) (CL0 := zc_X4_leastOf) (ns := []) (AN := [(6, ([(0, 0, 0, 0), (1, 0, 0, 0), (2, 0, (-1), (-1)), (2, 4, 0, 0), (0, 0, (-2147483648), 2147483647), (0, 0, (-2147483648), 2147483647), (0, 0, 0, 8), (0, 0, (-2147483648), 100000000)], [], [], [], [(4, (6, 0)), (3, (7, 0)), (0, (3, 0)), (1, (4, 0)), (2, (5, 0))], [(0, 3), (1, 4), (2, 5)], []), [], 0, 0, (8, [((-1), 6)]))]) (fuel := 154) (pl := 1259) (by decide +kernel) (by decide +kernel) zd_X4_leastOf (by
  intro K h
  rw [List.mem_singleton.mp h]
  exact zq_273 hW)
/-- X4_measure -/
noncomputable def zK_275 : zk_K := (zt_mn 161, prog_6_method_4_code, 5, (Option.none : Option Jvm.ClassFile.FieldType), 1, 4, [(2, 4, 0, 0), (2, 42, 0, 0), (0, 0, (-2147483648), 2147483647)], [(none, [])], [(25, 1002, 0), (26, 1002, 0), (26, 1001, 0)], (3, 85, 0, 0))
theorem zq_275 {l : Launch} {w : zk_W} (hW : zh_W w) : zh_K l w zK_275 := zh_meth hW (lk := [(2, 15, 4, 1, 18)]) (KS := [zK_272, zK_271, zK_274]) (km := [162, 163, 164]) (lc := [(0, 28, 162), (0, 32, 163), (0, 36, 164)]) (CL0 := zc_X4_measure) (ns := [(59, 1, []), (69, 2, [])]) (AN := [(7, ([(0, 0, 0, 0), (1, 0, 0, 0), (2, 0, (-1), (-1)), (2, 4, 0, 0), (2, 42, 0, 0), (0, 0, (-2147483648), 2147483647), (0, 0, 0, 256)], [(6, 5, 2147483649)], [], [], [(3, (6, 0)), (0, (3, 0)), (2, (5, 0))], [(0, 3), (1, 4), (2, 5)], []), [], 0, 0, (4608, [((-18), 6)])),
  (33, ([(0, 0, 0, 0), (1, 0, 0, 0), (2, 0, (-1), (-1)), (2, 4, 0, 0), (2, 42, 0, 0), (0, 0, 0, 2147483647), (0, 0, 0, 8), (0, 0, 0, 255)], [(7, 5, 0)], [], [], [(4, (6, 0)), (3, (7, 0)), (0, (3, 0)), (2, (5, 0))], [(0, 3), (1, 4), (2, 5)], []), [], 0, 0, (4599, [((-1), 6), ((-18), 7)]))]) (fuel := 238) (pl := 1245) (by decide +kernel) (by decide +kernel) zd_X4_measure (by
  intro K h
  rcases List.mem_cons.mp h with rfl | h
  · exact zq_272 hW
  rcases List.mem_cons.mp h with rfl | h
  · exact zq_271 hW
  rw [List.mem_singleton.mp h]
  exact zq_274 hW)
/-- X4_roundOf -/
noncomputable def zK_276 : zk_K := (zt_mn 166, prog_6_method_9_code, 4, (Option.some Jvm.ClassFile.FieldType.int), 1, 4, [(2, 4, 0, 0), (0, 0, (-2147483648), 2147483647)], [(some (0, 0, (-1), (-1)), []), (some (0, 0, (-2147483648), 999999), [])], [], (0, 0, 0, 0))
theorem zq_276 {l : Launch} {w : zk_W} (hW : zh_W w) : zh_K l w zK_276 := zh_meth hW (lk := [(2, 15, 4, 1, 18), (0, 39, 0, 0, 1000000)]) (KS := []) (km := []) (lc := []) (CL0 := zc_X4_roundOf) (ns := []) (AN := []) (fuel := 150) (pl := 1268) (by decide +kernel) (by decide +kernel) zd_X4_roundOf (fun K h => nomatch h)
/-- X4_firstOf -/
noncomputable def zK_277 : zk_K := (zt_mn 168, prog_6_method_11_code, 5, (Option.some Jvm.ClassFile.FieldType.int), 1, 4, [(2, 4, 0, 0), (0, 0, (-2147483648), 2147483647), (0, 0, (-2147483648), 2147483647)], [(some (0, 0, (-1), (-1)), []), (some (0, 0, 0, 7), [])], [], (3, 84, 0, 0))
theorem zq_277 {l : Launch} {w : zk_W} (hW : zh_W w) : zh_K l w zK_277 := zh_meth hW (lk := []) (KS := [zK_274, zK_273]) (km := [164, 165]) (lc := [(0, 36, 164), (0, 46, 165)]) (CL0 := zc_X4_firstOf) (ns := [(32, 1, [])]) (AN := [(10, ([(0, 0, 0, 0), (1, 0, 0, 0), (2, 0, (-1), (-1)), (2, 4, 0, 0), (0, 0, (-2147483648), 2147483647), (0, 0, (-2147483648), 2147483647), (0, 0, 0, 8), (0, 0, (-2147483648), 100000000)], [], [], [], [(4, (6, 0)), (3, (7, 0)), (0, (3, 0)), (1, (4, 0)), (2, (5, 0))], [(0, 3), (1, 4), (2, 5)], []), [], 0, 0, (8, [((-1), 6)]))]) (fuel := 170) (pl := 1276) (by decide +kernel) (by decide +kernel) zd_X4_firstOf (by
  intro K h
  rcases List.mem_cons.mp h with rfl | h
  · exact zq_274 hW
  rw [List.mem_singleton.mp h]
  exact zq_273 hW)
/-- X4_stop -/
noncomputable def zK_278 : zk_K := (zt_mn 167, prog_6_method_10_code, 7, (Option.some Jvm.ClassFile.FieldType.int), 1, 4, [(2, 4, 0, 0), (0, 0, (-2147483648), 2147483647), (0, 0, (-2147483648), 2147483647)], [(some (0, 0, (-1), (-1)), [(1, 2, 2147483647), (3, 2, (-1)), (99, 2, 0)]), (some (0, 0, 0, 7), [])], [], (4, 108, 0, 0))
theorem zq_278 {l : Launch} {w : zk_W} (hW : zh_W w) : zh_K l w zK_278 := zh_meth hW (lk := []) (KS := [zK_277]) (km := [168]) (lc := [(0, 50, 168)]) (CL0 := zc_X4_stop) (ns := []) (AN := [(8, ([(0, 0, 0, 0), (1, 0, 0, 0), (2, 0, (-1), (-1)), (2, 4, 0, 0), (0, 0, (-2147483648), 2147483647), (0, 0, (-2147483648), 2147483647), (0, 0, 0, 8), (0, 0, 0, 7), (0, 0, (-2147483648), 2147483647)], [(6, 5, 2147483649), (7, 6, 6)], [], [], [(5, (6, 0)), (4, (7, 0)), (3, (8, 0)), (0, (3, 0)), (2, (5, 0))], [(0, 3), (1, 4), (2, 5)], []), [], 0, 0, (8, [((-1), 6)]))]) (fuel := 194) (pl := 1272) (by decide +kernel) (by decide +kernel) zd_X4_stop (by
  intro K h
  rw [List.mem_singleton.mp h]
  exact zq_277 hW)
/-- X11_round -/
noncomputable def zK_279 : zk_K := (zt_mn 160, prog_1_method_43_code, 4, (Option.some Jvm.ClassFile.FieldType.int), 1, 11, [(2, 12, 0, 0), (0, 0, (-2147483648), 2147483647), (0, 0, (-2147483648), 2147483647)], [(some (0, 0, (-1), (-1)), []), (some (0, 0, (-2147483648), 999999), [(1, 2, 256), (1, 3, 2147483903), (1, 99, 255), (2, 1, 62), (2, 3, 2147483647), (2, 99, 62), (3, 1, 999999), (3, 2, 1000000), (99, 1, 0), (99, 2, 1)])], [(25, 1002, 0), (26, 1002, 0), (26, 1001, 0)], (5, 134, 0, 0))
theorem zq_279 {l : Launch} {w : zk_W} (hW : zh_W w) : zh_K l w zK_279 := zh_meth hW (lk := [(2, 53, 11, 6, 18), (2, 10, 11, 0, 18), (2, 115, 9, 0, 34)]) (KS := [zK_12, zK_267, zK_275, zK_276, zK_278]) (km := [15, 158, 161, 166, 167]) (lc := [(1, 107, 15), (1, 411, 158), (0, 416, 161), (0, 420, 166), (0, 423, 167)]) (CL0 := zc_X11_round) (ns := [(18, 1, []), (38, 2, []), (46, 3, []), (70, 4, [])]) (AN := []) (fuel := 210) (pl := 1241) (by decide +kernel) (by decide +kernel) zd_X11_round (by
  intro K h
  rcases List.mem_cons.mp h with rfl | h
  · exact zq_12 hW
  rcases List.mem_cons.mp h with rfl | h
  · exact zq_267 hW
  rcases List.mem_cons.mp h with rfl | h
  · exact zq_275 hW
  rcases List.mem_cons.mp h with rfl | h
  · exact zq_276 hW
  rw [List.mem_singleton.mp h]
  exact zq_278 hW)
/-- X11_game -/
noncomputable def zK_280 : zk_K := (zt_mn 169, prog_1_method_44_code, 2, (Option.some Jvm.ClassFile.FieldType.int), 1, 11, [(2, 12, 0, 0), (0, 0, (-2147483648), 2147483647)], [(some (0, 0, (-1), (-1)), []), (some (0, 0, 0, 3), [(1, 2, 12), (1, 99, 12), (2, 1, 3), (99, 1, 0)])], [], (1, 22, 0, 0))