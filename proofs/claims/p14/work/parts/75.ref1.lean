/-! part 42: contracts of the reference, by the checker -/
/-- X12_in -/
noncomputable def zK_1052 : zk_K := (zt_mn 186, prog_14_method_3_code, 6, (Option.some Jvm.ClassFile.FieldType.boolean), 0, 12, [(1, 0, (-9223372036854775808), 9223372036854775807), (1, 0, 0, 0), (1, 0, 1, 1)], [(some (0, 0, 0, 0), []), (some (0, 0, 1, 1), [(0, 1, 1), (0, 2, 0), (0, 3, 0), (0, 99, 1), (1, 0, 0), (2, 0, 1), (3, 0, 1), (99, 0, 0)])], [], (0, 0, 0, 0))
theorem zq_1052 {l : Launch} {w : zk_W} (hW : zh_W w) : zh_K l w zK_1052 := zh_meth hW (lk := []) (KS := []) (km := []) (lc := []) (CL0 := zc_X12_in) (ns := []) (AN := []) (fuel := 98) (pl := 1572) (by decide +kernel) (by decide +kernel) zd_X12_in (fun K h => nomatch h)
/-- X12_setHour -/
noncomputable def zK_1053 : zk_K := (zt_mn 239, prog_14_method_68_code, 5, (Option.none : Option Jvm.ClassFile.FieldType), 1, 12, [(2, 13, 0, 0), (0, 0, (-2147483648), 2147483647), (0, 0, (-2147483648), 2147483647), (0, 0, (-2147483648), 2147483647), (0, 0, (-1), (-1))], [(none, [])], [(75, 1002, 0)], (0, 0, 0, 0))
theorem zq_1053 {l : Launch} {w : zk_W} (hW : zh_W w) : zh_K l w zK_1053 := zh_meth hW (lk := [(2, 101, 12, 35, 18), (1, 267, 0, 0, (-1))]) (KS := []) (km := []) (lc := [(0, 207, 195)]) (CL0 := zc_X12_setHour) (ns := []) (AN := []) (fuel := 262) (pl := 1805) (by decide +kernel) (by decide +kernel) zd_X12_setHour (fun K h => nomatch h)
/-- X12_within -/
noncomputable def zK_1057 : zk_K := (zt_mn 245, prog_14_method_6_code, 4, (Option.some Jvm.ClassFile.FieldType.int), 0, 12, [(1, 0, (-9223372036854775808), 9223372036854775807), (0, 0, 0, 0), (0, 0, 999, 999)], [(some (0, 0, 0, 999), [(0, 3, 9223372036854774808), (3, 0, 9223372036854775808)])], [], (0, 0, 0, 0))
theorem zq_1057 {l : Launch} {w : zk_W} (hW : zh_W w) : zh_K l w zK_1057 := zh_meth hW (lk := []) (KS := []) (km := []) (lc := []) (CL0 := zc_X12_within) (ns := []) (AN := []) (fuel := 118) (pl := 1830) (by decide +kernel) (by decide +kernel) zd_X12_within (fun K h => nomatch h)
/-- X12_runsOf -/
noncomputable def zK_1061 : zk_K := (zt_mn 252, prog_14_method_69_code, 4, (Option.some Jvm.ClassFile.FieldType.int), 1, 12, [(2, 13, 0, 0), (0, 0, (-2147483648), 2147483647), (0, 0, (-2147483648), 2147483647), (0, 0, (-2147483648), 2147483647)], [(some (0, 0, 0, 999), [])], [(75, 1002, 0), (13, 34, 0), (13, 40, 0), (13, 38, 0), (13, 39, 0), (77, 1001, 0)], (21, 1027, 0, 0))
theorem zq_1061 {l : Launch} {w : zk_W} (hW : zh_W w) : zh_K l w zK_1061 := zh_meth hW (lk := [(1, 421, 0, 0, 60)]) (KS := [zK_1053, zK_1054, zK_1057]) (km := [239, 240, 245]) (lc := [(0, 417, 239), (0, 423, 240), (1, 427, 245)]) (CL0 := zc_X12_runsOf) (ns := [(13, 1, []), (20, 2, [])]) (AN := []) (fuel := 106) (pl := 1858) (by decide +kernel) (by decide +kernel) zd_X12_runsOf (by
  intro K h
  rcases List.mem_cons.mp h with rfl | h
  · exact zq_1053 hW
  rcases List.mem_cons.mp h with rfl | h
  · exact zq_1054 hW
  rw [List.mem_singleton.mp h]
  exact zq_1057 hW)
/-- X12_within -/
noncomputable def zK_1062 : zk_K := (zt_mn 245, prog_14_method_6_code, 4, (Option.some Jvm.ClassFile.FieldType.int), 0, 12, [(1, 0, (-9223372036854775808), 9223372036854775807), (0, 0, 0, 0), (0, 0, 100000000, 100000000)], [(some (0, 0, 0, 100000000), [(0, 3, 9223372036754775807), (3, 0, 9223372036854775808)])], [], (0, 0, 0, 0))
theorem zq_1062 {l : Launch} {w : zk_W} (hW : zh_W w) : zh_K l w zK_1062 := zh_meth hW (lk := []) (KS := []) (km := []) (lc := []) (CL0 := zc_X12_within) (ns := []) (AN := []) (fuel := 118) (pl := 1830) (by decide +kernel) (by decide +kernel) zd_X12_within (fun K h => nomatch h)
/-- X12_ofPerson -/
noncomputable def zK_1063 : zk_K := (zt_mn 195, prog_14_method_17_code, 3, (Option.some Jvm.ClassFile.FieldType.int), 1, 12, [(2, 13, 0, 0), (0, 0, 0, 5), (0, 0, 0, 0)], [(some (0, 0, (-2147483648), 2147483647), [])], [], (0, 0, 0, 0))
theorem zq_1063 {l : Launch} {w : zk_W} (hW : zh_W w) : zh_K l w zK_1063 := zh_meth hW (lk := [(2, 13, 12, 3, 18)]) (KS := []) (km := []) (lc := []) (CL0 := zc_X12_ofPerson) (ns := [(8, 0, [(0, 0, 6)])]) (AN := []) (fuel := 94) (pl := 1612) (by decide +kernel) (by decide +kernel) zd_X12_ofPerson (fun K h => nomatch h)
/-- X12_ofPerson -/
noncomputable def zK_1064 : zk_K := (zt_mn 195, prog_14_method_17_code, 3, (Option.some Jvm.ClassFile.FieldType.int), 1, 12, [(2, 13, 0, 0), (0, 0, 0, 5), (0, 0, 2, 2)], [(some (0, 0, 0, 9), [])], [], (0, 0, 0, 0))
theorem zq_1064 {l : Launch} {w : zk_W} (hW : zh_W w) : zh_K l w zK_1064 := zh_meth hW (lk := [(2, 13, 12, 3, 18)]) (KS := []) (km := []) (lc := []) (CL0 := zc_X12_ofPerson) (ns := [(8, 0, [(0, 0, 6)])]) (AN := []) (fuel := 94) (pl := 1612) (by decide +kernel) (by decide +kernel) zd_X12_ofPerson (fun K h => nomatch h)
/-- X12_within -/
noncomputable def zK_1066 : zk_K := (zt_mn 245, prog_14_method_6_code, 4, (Option.some Jvm.ClassFile.FieldType.int), 0, 12, [(1, 0, (-9223372036854775808), 9223372036854775807), (0, 0, 0, 0), (0, 0, 60, 60)], [(some (0, 0, 0, 60), [(0, 3, 9223372036854775747), (3, 0, 9223372036854775808)])], [], (0, 0, 0, 0))
theorem zq_1066 {l : Launch} {w : zk_W} (hW : zh_W w) : zh_K l w zK_1066 := zh_meth hW (lk := []) (KS := []) (km := []) (lc := []) (CL0 := zc_X12_within) (ns := []) (AN := []) (fuel := 118) (pl := 1830) (by decide +kernel) (by decide +kernel) zd_X12_within (fun K h => nomatch h)
/-- X12_canGoOn -/
noncomputable def zK_1068 : zk_K := (zt_mn 251, prog_14_method_75_code, 2, (Option.some Jvm.ClassFile.FieldType.boolean), 1, 12, [(2, 13, 0, 0), (0, 0, 0, 9)], [(some (0, 0, 0, 0), []), (some (0, 0, 1, 1), [])], [], (1, 22, 0, 0))
theorem zq_1068 {l : Launch} {w : zk_W} (hW : zh_W w) : zh_K l w zK_1068 := zh_meth hW (lk := [(2, 125, 12, 46, 18), (2, 119, 12, 44, 18)]) (KS := [zK_1023]) (km := [196]) (lc := [(0, 188, 196)]) (CL0 := zc_X12_canGoOn) (ns := []) (AN := []) (fuel := 122) (pl := 1854) (by decide +kernel) (by decide +kernel) zd_X12_canGoOn (by
  intro K h
  rw [List.mem_singleton.mp h]
  exact zq_1023 hW)
/-- X12_pick -/
noncomputable def zK_1069 : zk_K := (zt_mn 250, prog_14_method_76_code, 3, (Option.some Jvm.ClassFile.FieldType.int), 1, 12, [(2, 13, 0, 0), (0, 0, (-2147483648), 2147483647)], [(some (0, 0, (-1), (-1)), []), (some (0, 0, 0, 9), [])], [], (2, 43, 0, 0))
theorem zq_1069 {l : Launch} {w : zk_W} (hW : zh_W w) : zh_K l w zK_1069 := zh_meth hW (lk := [(2, 128, 12, 47, 0), (2, 439, 12, 49, 0), (2, 131, 12, 48, 18), (2, 13, 12, 3, 18)]) (KS := [zK_1068, zK_1022]) (km := [251, 196]) (lc := [(0, 442, 251), (0, 188, 196)]) (CL0 := zc_X12_pick) (ns := [(28, 0, [(0, 0, 0)]), (61, 1, []), (73, 0, [(0, 0, 0)])]) (AN := [(48, ([(0, 0, 0, 0), (1, 0, 0, 0), (2, 0, (-1), (-1)), (2, 13, 0, 0), (0, 0, (-2147483648), 2147483647), (0, 0, 0, 12), (0, 0, (-2147483648), 2147483647)], [], [(3, 47, (6, 0))], [], [(2, (5, 0)), (0, (3, 0)), (1, (4, 0))], [(0, 3), (1, 4)], []), [], 0, 0, (156, [((-13), 5)])),
  (10, ([(0, 0, 0, 0), (1, 0, 0, 0), (2, 0, (-1), (-1)), (2, 13, 0, 0), (0, 0, (-2147483648), 2147483647), (0, 0, 0, 12), (0, 0, (-2147483648), 2147483647)], [(4, 6, 0), (6, 4, 0)], [(3, 47, (6, 0))], [], [(2, (5, 0)), (0, (3, 0))], [(0, 3), (1, 4)], []), [], 0, 0, (325, [((-1), 5)]))]) (fuel := 250) (pl := 1850) (by decide +kernel) (by decide +kernel) zd_X12_pick (by
  intro K h
  rcases List.mem_cons.mp h with rfl | h
  · exact zq_1068 hW
  rw [List.mem_singleton.mp h]
  exact zq_1022 hW)
/-- X12_within -/
noncomputable def zK_1070 : zk_K := (zt_mn 245, prog_14_method_6_code, 4, (Option.some Jvm.ClassFile.FieldType.int), 0, 12, [(1, 0, (-9223372036854775808), 9223372036854775807), (0, 0, 0, 0), (0, 0, (-2147483648), 2147483647)], [(some (0, 0, (-2147483648), 2147483647), [(2, 3, 2147483647), (3, 0, 9223372036854775808)])], [], (0, 0, 0, 0))
theorem zq_1070 {l : Launch} {w : zk_W} (hW : zh_W w) : zh_K l w zK_1070 := zh_meth hW (lk := []) (KS := []) (km := []) (lc := []) (CL0 := zc_X12_within) (ns := []) (AN := []) (fuel := 118) (pl := 1830) (by decide +kernel) (by decide +kernel) zd_X12_within (fun K h => nomatch h)
/-- X12_ofWork -/
noncomputable def zK_1071 : zk_K := (zt_mn 196, prog_14_method_18_code, 3, (Option.some Jvm.ClassFile.FieldType.int), 1, 12, [(2, 13, 0, 0), (0, 0, 0, 9), (0, 0, 4, 4)], [(some (0, 0, (-1), 9), [])], [], (0, 0, 0, 0))
theorem zq_1071 {l : Launch} {w : zk_W} (hW : zh_W w) : zh_K l w zK_1071 := zh_meth hW (lk := [(2, 13, 12, 3, 18)]) (KS := []) (km := []) (lc := []) (CL0 := zc_X12_ofWork) (ns := [(8, 0, [(0, 0, 10)])]) (AN := []) (fuel := 94) (pl := 1616) (by decide +kernel) (by decide +kernel) zd_X12_ofWork (fun K h => nomatch h)
/-- X12_setHour -/
noncomputable def zK_1080 : zk_K := (zt_mn 239, prog_14_method_68_code, 5, (Option.none : Option Jvm.ClassFile.FieldType), 1, 12, [(2, 13, 0, 0), (0, 0, (-2147483648), 2147483647), (0, 0, (-2147483648), 2147483647), (0, 0, (-2147483648), 2147483647), (0, 0, 0, 5)], [(none, [])], [(75, 1002, 0)], (1, 22, 0, 0))
theorem zq_1080 {l : Launch} {w : zk_W} (hW : zh_W w) : zh_K l w zK_1080 := zh_meth hW (lk := [(2, 101, 12, 35, 18), (1, 267, 0, 0, (-1))]) (KS := [zK_1063, zK_1064]) (km := [195, 195]) (lc := [(0, 207, 195)]) (CL0 := zc_X12_setHour) (ns := [(81, 1, [])]) (AN := []) (fuel := 262) (pl := 1805) (by decide +kernel) (by decide +kernel) zd_X12_setHour (by
  intro K h
  rcases List.mem_cons.mp h with rfl | h
  · exact zq_1063 hW
  rw [List.mem_singleton.mp h]
  exact zq_1064 hW)
/-- X12_speedsOf -/
noncomputable def zK_1081 : zk_K := (zt_mn 249, prog_14_method_70_code, 5, (Option.some Jvm.ClassFile.FieldType.int), 1, 12, [(2, 13, 0, 0), (0, 0, (-2147483648), 2147483647), (0, 0, (-2147483648), 2147483647), (0, 0, (-2147483648), 2147483647), (0, 0, 0, 5)], [(some (0, 0, 0, 60), [])], [(75, 1002, 0), (13, 34, 0), (13, 40, 0), (13, 38, 0), (13, 39, 0), (77, 1001, 0)], (21, 1027, 0, 0))
theorem zq_1081 {l : Launch} {w : zk_W} (hW : zh_W w) : zh_K l w zK_1081 := zh_meth hW (lk := [(1, 224, 0, 0, 5)]) (KS := [zK_1080, zK_1064, zK_1054, zK_1066]) (km := [239, 195, 240, 245]) (lc := [(0, 417, 239), (0, 207, 195), (0, 423, 240), (1, 427, 245)]) (CL0 := zc_X12_speedsOf) (ns := [(23, 1, []), (29, 2, []), (35, 3, [])]) (AN := []) (fuel := 150) (pl := 1846) (by decide +kernel) (by decide +kernel) zd_X12_speedsOf (by
  intro K h
  rcases List.mem_cons.mp h with rfl | h
  · exact zq_1080 hW
  rcases List.mem_cons.mp h with rfl | h
  · exact zq_1064 hW
  rcases List.mem_cons.mp h with rfl | h
  · exact zq_1054 hW
  rw [List.mem_singleton.mp h]
  exact zq_1066 hW)
/-- X12_layDay -/
noncomputable def zK_1082 : zk_K := (zt_mn 248, prog_14_method_77_code, 8, (Option.none : Option Jvm.ClassFile.FieldType), 1, 12, [(2, 13, 0, 0), (0, 0, (-2147483648), 2147483647)], [(none, [])], [(81, 1002, 0), (82, 1002, 0), (78, 1002, 0), (75, 1002, 0), (13, 34, 0), (13, 40, 0), (13, 38, 0), (13, 39, 0), (77, 1001, 0), (79, 1002, 0), (83, 1002, 0), (80, 1002, 0), (80, 1001, 0)], (22, 1051, 0, 0))
theorem zq_1082 {l : Launch} {w : zk_W} (hW : zh_W w) : zh_K l w zK_1082 := zh_meth hW (lk := [(2, 13, 12, 3, 18), (2, 119, 12, 44, 18), (2, 122, 12, 45, 18), (2, 110, 12, 41, 18), (2, 125, 12, 46, 18), (2, 113, 12, 42, 18), (0, 456, 0, 0, 100000000), (2, 116, 12, 43, 18)]) (KS := [zK_1071, zK_1023, zK_1081, zK_1069, zK_1070, zK_1061, zK_1062]) (km := [196, 196, 249, 250, 245, 252, 245]) (lc := [(0, 188, 196), (0, 445, 249), (0, 449, 250), (1, 427, 245), (0, 452, 252)]) (CL0 := zc_X12_layDay) (ns := [(111, 1, []), (150, 2, []), (158, 3, []), (206, 1, []), (209, 4, []), (230, 1, []), (255, 5, []), (264, 6, [])]) (AN := [(15, ([(0, 0, 0, 0), (1, 0, 0, 0), (2, 0, (-1), (-1)), (2, 13, 0, 0), (0, 0, (-2147483648), 2147483647), (0, 0, 0, 10), (0, 0, 0, 10), (0, 0, (-2147483648), 2147483647), (2, 59, 0, 0)], [(5, 6, 1)], [(3, 3, (8, 0))], [], [(4, (5, 0)), (3, (6, 0)), (2, (7, 0)), (0, (3, 0)), (1, (4, 0))], [(0, 3), (1, 4)], []), [], 0, 0, (1798181, [((-1), 5)])),
  (55, ([(0, 0, 0, 0), (1, 0, 0, 0), (2, 0, (-1), (-1)), (2, 13, 0, 0), (0, 0, (-2147483648), 2147483647), (0, 0, 0, 24), (0, 0, 0, 10), (0, 0, (-2147483648), 2147483647), (2, 59, 0, 0)], [], [(3, 3, (8, 0))], [], [(4, (5, 0)), (3, (6, 0)), (2, (7, 0)), (0, (3, 0)), (1, (4, 0))], [(0, 3), (1, 4)], []), [], 0, 0, (894432, [((-37268), 5)])),
  (73, ([(0, 0, 0, 0), (1, 0, 0, 0), (2, 0, (-1), (-1)), (2, 13, 0, 0), (0, 0, (-2147483648), 2147483647), (0, 0, 0, 10), (0, 0, 0, 23), (0, 0, 0, 10), (0, 0, (-2147483648), 2147483647), (2, 78, 0, 0), (2, 59, 0, 0)], [(5, 7, 1)], [(3, 41, (9, 0)), (3, 3, (10, 0))], [], [(5, (5, 0)), (4, (6, 0)), (3, (7, 0)), (2, (8, 0)), (0, (3, 0)), (1, (4, 0))], [(0, 3), (1, 4)], []), [], 0, 0, (885115, [((-11), 5), ((-37268), 6)])),
  (132, ([(0, 0, 0, 0), (1, 0, 0, 0), (2, 0, (-1), (-1)), (2, 13, 0, 0), (0, 0, (-2147483648), 2147483647), (0, 0, 0, 6), (0, 0, 0, 23), (0, 0, 0, 10), (0, 0, (-2147483648), 2147483647), (2, 78, 0, 0), (2, 59, 0, 0)], [], [(3, 41, (9, 0)), (3, 3, (10, 0))], [], [(5, (5, 0)), (4, (6, 0)), (3, (7, 0)), (2, (8, 0)), (0, (3, 0)), (1, (4, 0))], [(0, 3), (1, 4)], []), [], 0, 0, (875798, [((-121), 5), ((-37268), 6)])),
  (271, ([(0, 0, 0, 0), (1, 0, 0, 0), (2, 0, (-1), (-1)), (2, 13, 0, 0), (0, 0, (-2147483648), 2147483647), (0, 0, 0, 10), (0, 0, 0, 100000000), (0, 0, 0, 23), (0, 0, 0, 10), (2, 78, 0, 0), (2, 59, 0, 0)], [(5, 8, 1)], [(3, 41, (9, 0)), (3, 3, (10, 0))], [], [(5, (5, 0)), (2, (6, 0)), (4, (7, 0)), (3, (8, 0)), (0, (3, 0)), (1, (4, 0))], [(0, 3), (1, 4)], []), [], 0, 0, (866481, [((-847), 5), ((-37268), 7)]))]) (fuel := 738) (pl := 1842) (by decide +kernel) (by decide +kernel) zd_X12_layDay (by
  intro K h
  rcases List.mem_cons.mp h with rfl | h
  · exact zq_1071 hW
  rcases List.mem_cons.mp h with rfl | h
  · exact zq_1023 hW
  rcases List.mem_cons.mp h with rfl | h
  · exact zq_1081 hW
  rcases List.mem_cons.mp h with rfl | h
  · exact zq_1069 hW
  rcases List.mem_cons.mp h with rfl | h
  · exact zq_1070 hW
  rcases List.mem_cons.mp h with rfl | h
  · exact zq_1061 hW
  rw [List.mem_singleton.mp h]
  exact zq_1062 hW)