/-! part 66: contracts of the class, by the checker -/
/-- X9_lawInForce -/
noncomputable def zK_184 : zk_K := (zt_mn 91, prog_11_method_10_code, 1, (Option.some (Jvm.ClassFile.FieldType.object "WoundTown$Text")), 1, 9, [(2, 10, 0, 0)], [(some (2, 9, (-1), 0), [])], [], (0, 0, 0, 0))
theorem zq_184 {l : Launch} {w : zk_W} (hW : zh_W w) : zh_K l w zK_184 := zh_meth hW (lk := [(2, 48, 9, 15, 0), (2, 77, 9, 14, 0), (2, 44, 9, 13, 18)]) (KS := []) (km := []) (lc := []) (CL0 := zc_X9_lawInForce) (ns := []) (AN := []) (fuel := 130) (pl := 941) (by decide +kernel) (by decide +kernel) zd_X9_lawInForce (fun K h => nomatch h)
/-- X6_about -/
noncomputable def zK_185 : zk_K := (zt_mn 90, prog_8_method_2_code, 4, (Option.none : Option Jvm.ClassFile.FieldType), 1, 6, [(2, 6, 0, 0), (2, 10, 0, 0), (2, 2, 0, 0), (0, 0, (-2147483648), 2147483647)], [(none, [])], [(6, 2, 0), (27, 1002, 0)], (1, 20, 0, 0))
theorem zq_185 {l : Launch} {w : zk_W} (hW : zh_W w) : zh_K l w zK_185 := zh_meth hW (lk := [(2, 25, 6, 2, 2), (2, 11, 6, 0, 18), (2, 29, 2, 3, 0), (2, 35, 2, 6, 0), (2, 38, 9, 17, 0)]) (KS := [zK_184]) (km := [91]) (lc := [(0, 19, 91)]) (CL0 := zc_X6_about) (ns := []) (AN := []) (fuel := 162) (pl := 937) (by decide +kernel) (by decide +kernel) zd_X6_about (by
  intro K h
  rw [List.mem_singleton.mp h]
  exact zq_184 hW)
/-- X6_tellHour -/
noncomputable def zK_186 : zk_K := (zt_mn 93, prog_8_method_3_code, 3, (Option.none : Option Jvm.ClassFile.FieldType), 1, 6, [(2, 6, 0, 0), (0, 0, (-2147483648), 2147483647), (0, 0, (-2147483648), 2147483647)], [(none, [])], [(27, 1002, 0)], (0, 0, 0, 0))
theorem zq_186 {l : Launch} {w : zk_W} (hW : zh_W w) : zh_K l w zK_186 := zh_meth hW (lk := [(2, 11, 6, 0, 18)]) (KS := []) (km := []) (lc := []) (CL0 := zc_X6_tellHour) (ns := []) (AN := []) (fuel := 94) (pl := 949) (by decide +kernel) (by decide +kernel) zd_X6_tellHour (fun K h => nomatch h)
/-- X6_tellPerson -/
noncomputable def zK_187 : zk_K := (zt_mn 94, prog_8_method_4_code, 4, (Option.none : Option Jvm.ClassFile.FieldType), 1, 6, [(2, 6, 0, 0), (0, 0, (-2147483648), 2147483647), (0, 0, (-2147483648), 2147483647), (0, 0, (-2147483648), 2147483647)], [(none, [])], [(27, 1002, 0)], (0, 0, 0, 0))
theorem zq_187 {l : Launch} {w : zk_W} (hW : zh_W w) : zh_K l w zK_187 := zh_meth hW (lk := [(2, 11, 6, 0, 18)]) (KS := []) (km := []) (lc := []) (CL0 := zc_X6_tellPerson) (ns := []) (AN := []) (fuel := 114) (pl := 953) (by decide +kernel) (by decide +kernel) zd_X6_tellPerson (fun K h => nomatch h)
/-- X6_value -/
noncomputable def zK_188 : zk_K := (zt_mn 84, prog_8_method_12_code, 14, (Option.some Jvm.ClassFile.FieldType.long), 1, 6, [(2, 6, 0, 0), (2, 9, 0, 0), (0, 0, (-1), 872), (2, 27, 0, 0)], [(some (1, 0, (-9223372036854775808), 9223372036854775807), [(4, 2, 9223372036854775807)])], [(28, 1002, 0)], (0, 0, 0, 0))
theorem zq_188 {l : Launch} {w : zk_W} (hW : zh_W w) : zh_K l w zK_188 := zh_meth hW (lk := [(2, 86, 8, 5, 34), (2, 15, 6, 1, 18), (1, 53, 0, 0, (-9000000000)), (1, 89, 0, 0, 1000000000), (1, 91, 0, 0, (-1000000000))]) (KS := []) (km := []) (lc := []) (CL0 := zc_X6_value) (ns := [(2, 1, []), (15, 1, []), (27, 1, []), (34, 1, []), (60, 1, []), (66, 1, []), (72, 1, []), (77, 1, []), (84, 1, []), (102, 1, []), (126, 1, []), (146, 1, []), (155, 1, []), (177, 1, []), (183, 1, []), (189, 1, []), (201, 1, []), (209, 1, []), (224, 1, []), (239, 1, []), (337, 1, []), (360, 1, []), (384, 1, []), (402, 1, []), (420, 1, []), (436, 1, []), (445, 1, [])]) (AN := [(13, ([(0, 0, 0, 0), (1, 0, 0, 0), (2, 0, (-1), (-1)), (2, 6, 0, 0), (2, 9, 0, 0), (0, 0, 0, 872), (2, 27, 0, 0), (0, 0, 0, 1000000), (0, 0, 0, 64)], [(5, 7, 869)], [], [], [(5, (7, 0)), (4, (8, 0)), (0, (3, 0)), (1, (4, 0)), (3, (6, 0))], [(0, 3), (1, 4), (2, 5), (3, 6)], []), [], 0, 0, (4000000, [((-4), 7)])),
  (116, ([(0, 0, 0, 0), (1, 0, 0, 0), (2, 0, (-1), (-1)), (2, 6, 0, 0), (2, 9, 0, 0), (0, 0, 0, 872), (2, 27, 0, 0), (0, 0, 0, 870), (0, 0, 0, 63), (1, 0, (-2147483648), 2147483647), (2, 28, 0, 0), (2, 41, 0, 0), (0, 0, 2, 872)], [(5, 7, 869), (7, 12, (-2))], [(3, 1, (10, 0)), (4, 5, (11, 0)), (11, 1000, (12, 0))], [], [(5, (7, 0)), (4, (8, 0)), (0, (3, 0)), (1, (4, 0)), (3, (6, 0))], [(0, 3), (1, 4), (2, 5), (3, 6)], []), [(9, 0), (8, 0), (10, 0)], 0, 0, (3999999, [((-4), 7)])),
  (464, ([(0, 0, 0, 0), (1, 0, 0, 0), (2, 0, (-1), (-1)), (2, 6, 0, 0), (2, 9, 0, 0), (0, 0, 0, 872), (2, 27, 0, 0), (0, 0, 0, 64), (0, 0, 0, 999998), (2, 28, 0, 0), (2, 41, 0, 0), (0, 0, 2, 872)], [(5, 8, 871)], [(3, 1, (9, 0)), (4, 5, (10, 0)), (10, 1000, (11, 0))], [], [(4, (7, 0)), (5, (8, 0)), (0, (3, 0)), (1, (4, 0)), (3, (6, 0))], [(0, 3), (1, 4), (2, 5), (3, 6)], []), [], 0, 0, (3999997, [((-4), 8)])),
  (431, ([(0, 0, 0, 0), (1, 0, 0, 0), (2, 0, (-1), (-1)), (2, 6, 0, 0), (2, 9, 0, 0), (0, 0, 0, 872), (2, 27, 0, 0), (1, 0, (-9223372036854775808), 9223372036854775807), (0, 0, 1, 63), (0, 0, 0, 870), (2, 28, 0, 0), (2, 41, 0, 0), (0, 0, 2, 872)], [(5, 9, 869), (9, 12, (-2))], [(3, 1, (10, 0)), (4, 5, (11, 0)), (11, 1000, (12, 0))], [], [(12, (7, 0)), (4, (8, 0)), (5, (9, 0)), (0, (3, 0)), (1, (4, 0)), (3, (6, 0))], [(0, 3), (1, 4), (2, 5), (3, 6)], []), [], 0, 0, (3999998, [((-4), 9)]))]) (fuel := 958) (pl := 910) (by decide +kernel) (by decide +kernel) zd_X6_value (fun K h => nomatch h)
/-- X6_told -/
noncomputable def zK_189 : zk_K := (zt_mn 95, prog_8_method_11_code, 5, (Option.some Jvm.ClassFile.FieldType.long), 1, 6, [(2, 6, 0, 0), (0, 0, (-2147483648), 2147483647)], [(some (1, 0, (-9223372036854775808), 9223372036854775807), [])], [(28, 1002, 0)], (1, 33, 0, 0))
theorem zq_189 {l : Launch} {w : zk_W} (hW : zh_W w) : zh_K l w zK_189 := zh_meth hW (lk := [(2, 25, 6, 2, 2), (1, 53, 0, 0, (-9000000000)), (2, 68, 8, 6, 0), (2, 73, 8, 0, 34), (2, 76, 8, 4, 34), (2, 11, 6, 0, 18), (2, 83, 8, 1, 34)]) (KS := [zK_188]) (km := [84]) (lc := [(0, 79, 84)]) (CL0 := zc_X6_told) (ns := []) (AN := [(21, ([(0, 0, 0, 0), (1, 0, 0, 0), (2, 0, (-1), (-1)), (2, 6, 0, 0), (0, 0, (-2147483648), 2147483647), (0, 0, (-1), 11), (2, 9, 0, 0), (0, 0, 0, 12)], [(5, 7, (-1))], [(3, 2, (6, 0)), (6, 6, (7, 0))], [], [(2, (5, 0)), (0, (3, 0)), (1, (4, 0))], [(0, 3), (1, 4)], []), [], 0, 0, (1, [(1, 5)]))]) (fuel := 278) (pl := 957) (by decide +kernel) (by decide +kernel) zd_X6_told (by
  intro K h
  rw [List.mem_singleton.mp h]
  exact zq_188 hW)
/-- X6_nearest -/
noncomputable def zK_190 : zk_K := (zt_mn 96, prog_8_method_10_code, 3, (Option.some Jvm.ClassFile.FieldType.int), 0, 6, [(1, 0, (-9223372036854775808), 9223372036854775807), (0, 0, (-2147483648), 2147483647)], [(some (0, 0, 0, 2147483647), [])], [], (1, 60, 0, 0))
theorem zq_190 {l : Launch} {w : zk_W} (hW : zh_W w) : zh_K l w zK_190 := zh_meth hW (lk := [(6, 59, 3, 0, 0), (6, 65, 2, 0, 0)]) (KS := []) (km := []) (lc := []) (CL0 := zc_X6_nearest) (ns := []) (AN := []) (fuel := 82) (pl := 961) (by decide +kernel) (by decide +kernel) zd_X6_nearest (fun K h => nomatch h)
/-- X6_runs -/
noncomputable def zK_197 : zk_K := (zt_mn 106, prog_8_method_5_code, 5, (Option.some Jvm.ClassFile.FieldType.int), 1, 6, [(2, 6, 0, 0), (0, 0, (-2147483648), 2147483647), (0, 0, (-2147483648), 2147483647)], [(some (0, 0, 0, 2147483647), [])], [(27, 1002, 0), (28, 1002, 0)], (2, 82, 0, 0))
theorem zq_197 {l : Launch} {w : zk_W} (hW : zh_W w) : zh_K l w zK_197 := zh_meth hW (lk := [(1, 53, 0, 0, (-9000000000))]) (KS := [zK_186, zK_187, zK_189, zK_190]) (km := [93, 94, 95, 96]) (lc := [(0, 41, 93), (0, 45, 94), (0, 49, 95), (1, 55, 96)]) (CL0 := zc_X6_runs) (ns := [(10, 1, []), (15, 2, []), (36, 3, [])]) (AN := []) (fuel := 142) (pl := 1002) (by decide +kernel) (by decide +kernel) zd_X6_runs (by
  intro K h
  rcases List.mem_cons.mp h with rfl | h
  · exact zq_186 hW
  rcases List.mem_cons.mp h with rfl | h
  · exact zq_187 hW
  rcases List.mem_cons.mp h with rfl | h
  · exact zq_189 hW
  rw [List.mem_singleton.mp h]
  exact zq_190 hW)
/-- J7_fill_53178 -/
noncomputable def zK_198 : zk_K := (zt_mn 107, prog_21_method_103_code, 4, (Option.none : Option Jvm.ClassFile.FieldType), 0, 0, [(2, 16, 0, 0), (0, 0, (-2147483648), 2147483647)], [(none, [])], [(16, 1002, 0)], (0, 0, 0, 0))
theorem zq_198 {l : Launch} {w : zk_W} (hW : zh_W w) : zh_K l w zK_198 := zh_meth hW (lk := []) (KS := []) (km := []) (lc := []) (CL0 := zc_J7_fill_53178) (ns := []) (AN := [(5, ([(0, 0, 0, 0), (1, 0, 0, 0), (2, 0, (-1), (-1)), (2, 16, 0, 0), (0, 0, (-2147483648), 2147483647), (0, 0, 10, 10), (0, 0, 0, 12)], [(6, 5, 0)], [(3, 1000, (5, 0))], [], [(3, (5, 0)), (2, (6, 0)), (0, (3, 0)), (1, (4, 0))], [(0, 3), (1, 4)], []), [], 0, 0, (12, [((-1), 6)]))]) (fuel := 110) (pl := 1007) (by decide +kernel) (by decide +kernel) zd_J7_fill_53178 (fun K h => nomatch h)
/-- X0_begin -/
noncomputable def zK_199 : zk_K := (zt_mn 105, prog_2_method_2_code, 6, (Option.none : Option Jvm.ClassFile.FieldType), 1, 0, [(2, 0, 0, 0), (2, 10, 0, 0), (2, 2, 0, 0), (0, 0, (-2147483648), 2147483647)], [(none, [])], [(0, 1, 0), (0, 2, 0), (6, 2, 0), (27, 1002, 0), (14, 1002, 0), (28, 1002, 0), (15, 1001, 0), (16, 1002, 0)], (3, 106, 0, 0))
theorem zq_199 {l : Launch} {w : zk_W} (hW : zh_W w) : zh_K l w zK_199 := zh_meth hW (lk := [(2, 25, 0, 1, 2), (2, 35, 0, 2, 2), (2, 21, 0, 0, 18), (2, 9, 0, 3, 18), (6, 46, 0, 0, 0), (2, 51, 2, 2, 34), (2, 15, 0, 4, 18), (8, 54, 0, 0, 0), (2, 18, 0, 5, 18)]) (KS := [zK_185, zK_197, zK_198]) (km := [90, 106, 107]) (lc := [(0, 36, 90), (0, 42, 106), (1, 60, 107)]) (CL0 := zc_X0_begin) (ns := [(67, 1, []), (105, 2, [])]) (AN := [(35, ([(0, 0, 0, 0), (1, 0, 0, 0), (2, 0, (-1), (-1)), (2, 0, 0, 0), (2, 10, 0, 0), (2, 2, 0, 0), (0, 0, (-2147483648), 2147483647), (0, 0, 0, 24), (0, 0, (-2147483648), 2147483647), (2, 6, 0, 0)], [], [(3, 0, (9, 0)), (3, 2, (5, 0)), (3, 1, (4, 0))], [], [(5, (7, 0)), (4, (8, 0)), (0, (3, 0))], [(0, 3), (1, 4), (2, 5), (3, 6)], []), [], 0, 0, (24, [((-1), 7)]))]) (fuel := 274) (pl := 997) (by decide +kernel) (by decide +kernel) zd_X0_begin (by
  intro K h
  rcases List.mem_cons.mp h with rfl | h
  · exact zq_185 hW
  rcases List.mem_cons.mp h with rfl | h
  · exact zq_197 hW
  rw [List.mem_singleton.mp h]
  exact zq_198 hW)
/-- X0_isReady -/
noncomputable def zK_200 : zk_K := (zt_mn 110, prog_2_method_7_code, 3, (Option.some Jvm.ClassFile.FieldType.boolean), 1, 0, [(2, 0, 0, 0), (0, 0, (-2147483648), 2147483647), (0, 0, (-2147483648), 2147483647)], [(some (0, 0, 0, 0), [(1, 2, 2147483657), (1, 3, 9), (1, 99, 9), (2, 1, 2147483647), (3, 1, 0), (99, 1, 0)]), (some (0, 0, 1, 1), [])], [], (1, 21, 0, 0))
theorem zq_200 {l : Launch} {w : zk_W} (hW : zh_W w) : zh_K l w zK_200 := zh_meth hW (lk := [(2, 25, 0, 1, 2), (2, 15, 0, 4, 18), (2, 103, 9, 5, 34), (2, 18, 0, 5, 18)]) (KS := [zK_21]) (km := [26]) (lc := [(0, 119, 26)]) (CL0 := zc_X0_isReady) (ns := []) (AN := []) (fuel := 150) (pl := 1019) (by decide +kernel) (by decide +kernel) zd_X0_isReady (by
  intro K h
  rw [List.mem_singleton.mp h]
  exact zq_21 hW)
/-- X0_workOf -/
noncomputable def zK_201 : zk_K := (zt_mn 109, prog_2_method_6_code, 4, (Option.some Jvm.ClassFile.FieldType.int), 1, 0, [(2, 0, 0, 0), (0, 0, (-2147483648), 2147483647), (0, 0, (-2147483648), 2147483647)], [(some (0, 0, (-1), (-1)), []), (some (0, 0, 0, 9), [])], [], (2, 43, 0, 0))
theorem zq_201 {l : Launch} {w : zk_W} (hW : zh_W w) : zh_K l w zK_201 := zh_meth hW (lk := [(2, 25, 0, 1, 2), (2, 80, 9, 3, 0), (2, 109, 9, 4, 34), (2, 15, 0, 4, 18), (2, 103, 9, 5, 34), (2, 112, 9, 8, 34)]) (KS := [zK_200]) (km := [110]) (lc := [(0, 115, 110)]) (CL0 := zc_X0_workOf) (ns := []) (AN := [(2, ([(0, 0, 0, 0), (1, 0, 0, 0), (2, 0, (-1), (-1)), (2, 0, 0, 0), (0, 0, (-2147483648), 2147483647), (0, 0, (-2147483648), 2147483647), (0, 0, 0, 10)], [], [], [], [(3, (6, 0)), (0, (3, 0)), (1, (4, 0)), (2, (5, 0))], [(0, 3), (1, 4), (2, 5)], []), [], 0, 0, (10, [((-1), 6)]))]) (fuel := 218) (pl := 1015) (by decide +kernel) (by decide +kernel) zd_X0_workOf (by
  intro K h
  rw [List.mem_singleton.mp h]
  exact zq_200 hW)
/-- X6_speeds -/
noncomputable def zK_202 : zk_K := (zt_mn 111, prog_8_method_6_code, 8, (Option.some Jvm.ClassFile.FieldType.int), 1, 6, [(2, 6, 0, 0), (0, 0, (-2147483648), 2147483647), (0, 0, (-2147483648), 2147483647), (0, 0, (-2147483648), 2147483647), (0, 0, (-2147483648), 2147483647), (0, 0, (-2147483648), 2147483647)], [(some (0, 0, 0, 2147483647), [])], [(27, 1002, 0), (28, 1002, 0)], (2, 82, 0, 0))
theorem zq_202 {l : Launch} {w : zk_W} (hW : zh_W w) : zh_K l w zK_202 := zh_meth hW (lk := [(1, 53, 0, 0, (-9000000000))]) (KS := [zK_186, zK_187, zK_189, zK_190]) (km := [93, 94, 95, 96]) (lc := [(0, 41, 93), (0, 45, 94), (0, 49, 95), (1, 55, 96)]) (CL0 := zc_X6_speeds) (ns := [(12, 1, []), (17, 2, []), (27, 1, []), (48, 3, [])]) (AN := []) (fuel := 170) (pl := 1024) (by decide +kernel) (by decide +kernel) zd_X6_speeds (by
  intro K h
  rcases List.mem_cons.mp h with rfl | h
  · exact zq_186 hW
  rcases List.mem_cons.mp h with rfl | h
  · exact zq_187 hW
  rcases List.mem_cons.mp h with rfl | h
  · exact zq_189 hW
  rw [List.mem_singleton.mp h]
  exact zq_190 hW)
/-- X0_passHour -/
noncomputable def zK_203 : zk_K := (zt_mn 108, prog_2_method_5_code, 5, (Option.none : Option Jvm.ClassFile.FieldType), 1, 0, [(2, 0, 0, 0), (0, 0, 0, 23)], [(none, [])], [(27, 1002, 0), (28, 1002, 0), (15, 1002, 0), (16, 1002, 0)], (3, 109, 0, 0))
theorem zq_203 {l : Launch} {w : zk_W} (hW : zh_W w) : zh_K l w zK_203 := zh_meth hW (lk := [(2, 25, 0, 1, 2), (2, 87, 9, 1, 0), (2, 21, 0, 0, 18), (2, 9, 0, 3, 18), (2, 35, 0, 2, 2), (2, 93, 2, 0, 34), (2, 96, 2, 1, 34), (2, 15, 0, 4, 18), (2, 103, 9, 5, 34), (6, 106, 1, 0, 0), (2, 18, 0, 5, 18)]) (KS := [zK_201, zK_202]) (km := [109, 111]) (lc := [(0, 90, 109), (0, 99, 111)]) (CL0 := zc_X0_passHour) (ns := [(64, 1, [])]) (AN := [(2, ([(0, 0, 0, 0), (1, 0, 0, 0), (2, 0, (-1), (-1)), (2, 0, 0, 0), (0, 0, 0, 23), (0, 0, 0, 6)], [], [], [], [(2, (5, 0)), (0, (3, 0)), (1, (4, 0))], [(0, 3), (1, 4)], []), [], 0, 0, (6, [((-1), 5)]))]) (fuel := 342) (pl := 1011) (by decide +kernel) (by decide +kernel) zd_X0_passHour (by
  intro K h
  rcases List.mem_cons.mp h with rfl | h
  · exact zq_201 hW
  rw [List.mem_singleton.mp h]
  exact zq_202 hW)
/-- X0_isEnding -/
noncomputable def zK_205 : zk_K := (zt_mn 113, prog_2_method_10_code, 2, (Option.some Jvm.ClassFile.FieldType.boolean), 1, 0, [(2, 0, 0, 0), (0, 0, (-2147483648), 2147483647)], [(some (0, 0, 0, 0), []), (some (0, 0, 1, 1), [(1, 2, 8), (1, 99, 9), (2, 1, 1), (99, 1, 0)])], [], (0, 0, 0, 0))
theorem zq_205 {l : Launch} {w : zk_W} (hW : zh_W w) : zh_K l w zK_205 := zh_meth hW (lk := [(2, 18, 0, 5, 18)]) (KS := []) (km := []) (lc := []) (CL0 := zc_X0_isEnding) (ns := []) (AN := []) (fuel := 110) (pl := 1033) (by decide +kernel) (by decide +kernel) zd_X0_isEnding (fun K h => nomatch h)