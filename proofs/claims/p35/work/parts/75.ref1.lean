/-! part 42: contracts of the reference, by the checker -/
/-- X12_work -/
def zK_1032 : zk_K := (zt_mn 198, prog_14_method_27_code, 6, (Option.some Jvm.ClassFile.FieldType.int), 1, 12, [(2, 13, 0, 0), (0, 0, (-2147483648), 2147483647), (0, 0, (-2147483648), 2147483647), (0, 0, (-2147483648), 2147483647), (0, 0, (-2147483648), 2147483647), (0, 0, (-2147483648), 2147483647)], [(some (0, 0, (-1), (-1)), []), (some (0, 0, (-5), 9), [(1, 2, 2147483646), (1, 3, 2147483647), (1, 4, 2147483646), (2, 1, 2147484248), (2, 3, 600), (2, 4, 599), (2, 5, 2147484248), (2, 6, 605), (2, 99, 600), (3, 1, 2147483671), (3, 2, 22), (3, 4, 22), (3, 5, 2147483671), (3, 6, 28), (3, 99, 23), (4, 1, 2147483747), (4, 2, 98), (4, 3, 99), (4, 5, 2147483747), (4, 6, 104), (4, 99, 99), (5, 2, 2147483646), (5, 3, 2147483647), (5, 4, 2147483646), (6, 2, 8), (6, 3, 9), (6, 4, 8), (99, 2, (-1)), (99, 3, 0), (99, 4, (-1))])], [(13, 0, 0), (59, 3257, 0), (59, 10512, 0), (13, 8, 0), (13, 1, 0), (58, 1002, 0)], (3, 73, 0, 0))
theorem zq_1032 {l : Launch} {w : zk_W} (hW : zh_W w) : zh_K l w zK_1032 := zh_meth hW (lk := [(2, 161, 12, 0, 0)]) (KS := [zK_1031, zK_1009]) (km := [199, 188]) (lc := [(0, 220, 199), (0, 185, 188)]) (CL0 := zc_X12_work) (ns := [(17, 1, [])]) (AN := []) (fuel := 102) (pl := 1624) (by decide +kernel) (by decide +kernel) zd_X12_work (by
  intro K h
  rcases List.mem_cons.mp h with rfl | h
  · exact zq_1031 hW
  rw [List.mem_singleton.mp h]
  exact zq_1009 hW)
/-- X12_in -/
def zK_1033 : zk_K := (zt_mn 186, prog_14_method_3_code, 6, (Option.some Jvm.ClassFile.FieldType.boolean), 0, 12, [(1, 0, (-9223372036854775808), 9223372036854775807), (1, 0, 0, 0), (1, 0, 5, 5)], [(some (0, 0, 0, 0), []), (some (0, 0, 1, 1), [(0, 1, 5), (0, 2, 0), (0, 3, 4), (0, 99, 5), (1, 0, 0), (2, 0, 5), (3, 0, 1), (99, 0, 0)])], [], (0, 0, 0, 0))
theorem zq_1033 {l : Launch} {w : zk_W} (hW : zh_W w) : zh_K l w zK_1033 := zh_meth hW (lk := []) (KS := []) (km := []) (lc := []) (CL0 := zc_X12_in) (ns := []) (AN := []) (fuel := 98) (pl := 1572) (by decide +kernel) (by decide +kernel) zd_X12_in (fun K h => nomatch h)
/-- X12_ofWork -/
def zK_1034 : zk_K := (zt_mn 196, prog_14_method_18_code, 3, (Option.some Jvm.ClassFile.FieldType.int), 1, 12, [(2, 13, 0, 0), (0, 0, 0, 9), (0, 0, 0, 4)], [(some (0, 0, (-2147483648), 2147483647), [])], [], (0, 0, 0, 0))
theorem zq_1034 {l : Launch} {w : zk_W} (hW : zh_W w) : zh_K l w zK_1034 := zh_meth hW (lk := [(2, 13, 12, 3, 18)]) (KS := []) (km := []) (lc := []) (CL0 := zc_X12_ofWork) (ns := [(8, 0, [(0, 0, 10)])]) (AN := []) (fuel := 94) (pl := 1616) (by decide +kernel) (by decide +kernel) zd_X12_ofWork (fun K h => nomatch h)
/-- X12_at -/
def zK_1035 : zk_K := (zt_mn 201, prog_14_method_28_code, 3, (Option.some Jvm.ClassFile.FieldType.int), 1, 12, [(2, 13, 0, 0), (0, 0, (-2147483648), 2147483647), (0, 0, (-2147483648), 2147483647)], [(some (0, 0, (-1), (-1)), []), (some (0, 0, (-2147483648), 2147483647), [(1, 2, 9), (1, 3, 2147483657), (1, 99, 9), (2, 1, 5), (2, 3, 2147483653), (2, 99, 5), (3, 1, 2147483647), (3, 2, 2147483647), (99, 1, 0), (99, 2, 0)])], [(13, 0, 0)], (2, 46, 0, 0))
theorem zq_1035 {l : Launch} {w : zk_W} (hW : zh_W w) : zh_K l w zK_1035 := zh_meth hW (lk := [(2, 161, 12, 0, 0), (1, 224, 0, 0, 5), (2, 13, 12, 3, 18)]) (KS := [zK_1030, zK_1033, zK_1034]) (km := [200, 186, 196]) (lc := [(0, 217, 200), (1, 181, 186), (0, 188, 196)]) (CL0 := zc_X12_at) (ns := [(10, 0, [(0, 0, 0)]), (19, 1, []), (22, 0, [(0, 0, 0)]), (47, 2, [(0, 0, 5)])]) (AN := []) (fuel := 170) (pl := 1638) (by decide +kernel) (by decide +kernel) zd_X12_at (by
  intro K h
  rcases List.mem_cons.mp h with rfl | h
  · exact zq_1030 hW
  rcases List.mem_cons.mp h with rfl | h
  · exact zq_1033 hW
  rw [List.mem_singleton.mp h]
  exact zq_1034 hW)
/-- X12_change -/
def zK_1036 : zk_K := (zt_mn 190, prog_14_method_8_code, 4, (Option.some Jvm.ClassFile.FieldType.int), 1, 12, [(2, 13, 0, 0), (0, 0, 7, 7), (0, 0, 0, 9)], [(some (0, 0, (-2147483648), 2147483647), [])], [(59, 4799, 0), (13, 1, 0)], (0, 0, 0, 0))
theorem zq_1036 {l : Launch} {w : zk_W} (hW : zh_W w) : zh_K l w zK_1036 := zh_meth hW (lk := [(2, 13, 12, 3, 18), (2, 164, 12, 1, 0)]) (KS := []) (km := []) (lc := []) (CL0 := zc_X12_change) (ns := []) (AN := []) (fuel := 110) (pl := 1590) (by decide +kernel) (by decide +kernel) zd_X12_change (fun K h => nomatch h)
/-- X12_in -/
def zK_1037 : zk_K := (zt_mn 186, prog_14_method_3_code, 6, (Option.some Jvm.ClassFile.FieldType.boolean), 0, 12, [(1, 0, (-9223372036854775808), 9223372036854775807), (1, 0, 1, 1), (1, 0, 9, 9)], [(some (0, 0, 0, 0), []), (some (0, 0, 1, 1), [(0, 1, 8), (0, 2, 0), (0, 3, 8), (0, 99, 9), (1, 0, 0), (2, 0, 8), (3, 0, 0), (99, 0, (-1))])], [], (0, 0, 0, 0))
theorem zq_1037 {l : Launch} {w : zk_W} (hW : zh_W w) : zh_K l w zK_1037 := zh_meth hW (lk := []) (KS := []) (km := []) (lc := []) (CL0 := zc_X12_in) (ns := []) (AN := []) (fuel := 98) (pl := 1572) (by decide +kernel) (by decide +kernel) zd_X12_in (fun K h => nomatch h)
/-- X12_change -/
def zK_1038 : zk_K := (zt_mn 190, prog_14_method_8_code, 4, (Option.some Jvm.ClassFile.FieldType.int), 1, 12, [(2, 13, 0, 0), (0, 0, 6, 6), (0, 0, 1, 9)], [(some (0, 0, (-2147483648), 2147483647), [])], [(59, 4542, 0), (13, 1, 0)], (0, 0, 0, 0))
theorem zq_1038 {l : Launch} {w : zk_W} (hW : zh_W w) : zh_K l w zK_1038 := zh_meth hW (lk := [(2, 13, 12, 3, 18), (2, 164, 12, 1, 0)]) (KS := []) (km := []) (lc := []) (CL0 := zc_X12_change) (ns := []) (AN := []) (fuel := 110) (pl := 1590) (by decide +kernel) (by decide +kernel) zd_X12_change (fun K h => nomatch h)
/-- X12_in -/
def zK_1039 : zk_K := (zt_mn 186, prog_14_method_3_code, 6, (Option.some Jvm.ClassFile.FieldType.boolean), 0, 12, [(1, 0, (-9223372036854775808), 9223372036854775807), (1, 0, 0, 0), (1, 0, 999, 999)], [(some (0, 0, 0, 0), []), (some (0, 0, 1, 1), [(0, 1, 999), (0, 2, 0), (0, 3, 998), (0, 99, 999), (1, 0, 0), (2, 0, 999), (3, 0, 1), (99, 0, 0)])], [], (0, 0, 0, 0))
theorem zq_1039 {l : Launch} {w : zk_W} (hW : zh_W w) : zh_K l w zK_1039 := zh_meth hW (lk := []) (KS := []) (km := []) (lc := []) (CL0 := zc_X12_in) (ns := []) (AN := []) (fuel := 98) (pl := 1572) (by decide +kernel) (by decide +kernel) zd_X12_in (fun K h => nomatch h)
/-- X12_change -/
def zK_1040 : zk_K := (zt_mn 190, prog_14_method_8_code, 4, (Option.some Jvm.ClassFile.FieldType.int), 1, 12, [(2, 13, 0, 0), (0, 0, 5, 5), (0, 0, 0, 999)], [(some (0, 0, (-2147483648), 2147483647), [])], [(59, 4285, 0), (13, 1, 0)], (0, 0, 0, 0))
theorem zq_1040 {l : Launch} {w : zk_W} (hW : zh_W w) : zh_K l w zK_1040 := zh_meth hW (lk := [(2, 13, 12, 3, 18), (2, 164, 12, 1, 0)]) (KS := []) (km := []) (lc := []) (CL0 := zc_X12_change) (ns := []) (AN := []) (fuel := 110) (pl := 1590) (by decide +kernel) (by decide +kernel) zd_X12_change (fun K h => nomatch h)
/-- X12_terms -/
def zK_1041 : zk_K := (zt_mn 202, prog_14_method_29_code, 4, (Option.some Jvm.ClassFile.FieldType.int), 1, 12, [(2, 13, 0, 0), (0, 0, (-2147483648), 2147483647), (0, 0, (-2147483648), 2147483647)], [(some (0, 0, (-1), (-1)), []), (some (0, 0, (-2147483648), 2147483647), [(1, 2, 2), (1, 3, 2147483650), (1, 99, 2), (2, 1, 999), (2, 3, 2147484647), (2, 99, 999), (3, 1, 2147483647), (3, 2, 2147483647), (99, 1, 0), (99, 2, 0)])], [(13, 0, 0), (13, 1, 0), (58, 1002, 0), (13, 8, 0), (59, 4287, 0)], (1, 25, 0, 0))
theorem zq_1041 {l : Launch} {w : zk_W} (hW : zh_W w) : zh_K l w zK_1041 := zh_meth hW (lk := [(2, 161, 12, 0, 0), (1, 226, 0, 0, 999), (1, 199, 0, 0, 9), (2, 167, 12, 8, 0)]) (KS := [zK_1039, zK_1037, zK_1008, zK_1002, zK_1036, zK_1038, zK_1040]) (km := [186, 186, 186, 183, 190, 190, 190]) (lc := [(1, 181, 186), (0, 170, 183), (0, 196, 190)]) (CL0 := zc_X12_terms) (ns := [(18, 0, [(0, 0, 0)]), (32, 1, []), (35, 0, [(0, 0, 0)]), (49, 2, []), (52, 0, [(0, 0, 0)]), (67, 3, []), (81, 4, [(5, 0, 1001), (6, 0, 1001)])]) (AN := []) (fuel := 246) (pl := 1643) (by decide +kernel) (by decide +kernel) zd_X12_terms (by
  intro K h
  rcases List.mem_cons.mp h with rfl | h
  · exact zq_1039 hW
  rcases List.mem_cons.mp h with rfl | h
  · exact zq_1037 hW
  rcases List.mem_cons.mp h with rfl | h
  · exact zq_1008 hW
  rcases List.mem_cons.mp h with rfl | h
  · exact zq_1002 hW
  rcases List.mem_cons.mp h with rfl | h
  · exact zq_1036 hW
  rcases List.mem_cons.mp h with rfl | h
  · exact zq_1038 hW
  rw [List.mem_singleton.mp h]
  exact zq_1040 hW)
/-- X12_row -/
def zK_1042 : zk_K := (zt_mn 203, prog_14_method_30_code, 4, (Option.some Jvm.ClassFile.FieldType.int), 1, 12, [(2, 13, 0, 0)], [(some (0, 0, (-6), 400), [])], [(13, 0, 0), (13, 13, 0), (13, 11, 0), (13, 1, 0), (58, 1002, 0), (59, 3257, 0), (59, 10512, 0), (13, 8, 0)], (3, 73, 0, 0))
theorem zq_1042 {l : Launch} {w : zk_W} (hW : zh_W w) : zh_K l w zK_1042 := zh_meth hW (lk := [(2, 161, 12, 0, 0), (2, 228, 12, 13, 0), (2, 231, 12, 11, 0), (2, 35, 12, 12, 18)]) (KS := [zK_1002, zK_1031, zK_1009]) (km := [183, 199, 188]) (lc := [(0, 170, 183), (0, 220, 199), (0, 185, 188)]) (CL0 := zc_X12_row) (ns := [(79, 1, []), (85, 0, [(0, 0, 0)]), (109, 2, [])]) (AN := [(35, ([(0, 0, 0, 0), (1, 0, 0, 0), (2, 0, (-1), (-1)), (2, 13, 0, 0), (0, 0, 0, 872), (0, 0, 0, 400), (0, 0, 1, 400), (0, 0, (-2147483648), 2147483647)], [(4, 6, 3), (5, 4, 0)], [(3, 11, (7, 0)), (3, 13, (0, 0)), (3, 0, (0, 0))], [], [(3, (4, 0)), (2, (5, 0)), (1, (6, 0)), (0, (3, 0))], [(0, 3)], []), [], 0, 0, (872, [((-1), 4)]))]) (fuel := 330) (pl := 1648) (by decide +kernel) (by decide +kernel) zd_X12_row (by
  intro K h
  rcases List.mem_cons.mp h with rfl | h
  · exact zq_1002 hW
  rcases List.mem_cons.mp h with rfl | h
  · exact zq_1031 hW
  rw [List.mem_singleton.mp h]
  exact zq_1009 hW)
/-- X12_dust -/
def zK_1043 : zk_K := (zt_mn 204, prog_14_method_31_code, 1, (Option.some Jvm.ClassFile.FieldType.int), 1, 12, [(2, 13, 0, 0)], [(some (0, 0, (-2147483648), 2147483647), [])], [(13, 0, 0)], (0, 0, 0, 0))
theorem zq_1043 {l : Launch} {w : zk_W} (hW : zh_W w) : zh_K l w zK_1043 := zh_meth hW (lk := [(2, 161, 12, 0, 0), (2, 231, 12, 11, 0)]) (KS := []) (km := []) (lc := []) (CL0 := zc_X12_dust) (ns := []) (AN := []) (fuel := 74) (pl := 1652) (by decide +kernel) (by decide +kernel) zd_X12_dust (fun K h => nomatch h)
/-- X12_end -/
def zK_1046 : zk_K := (zt_mn 207, prog_14_method_34_code, 2, (Option.some Jvm.ClassFile.FieldType.int), 1, 12, [(2, 13, 0, 0), (0, 0, (-2147483648), 2147483647)], [(some (0, 0, (-1), (-1)), []), (some (0, 0, 0, 400), [(1, 2, 0), (1, 99, 400), (2, 1, 0), (99, 1, 0)])], [(13, 0, 0), (13, 13, 0)], (0, 0, 0, 0))
theorem zq_1046 {l : Launch} {w : zk_W} (hW : zh_W w) : zh_K l w zK_1046 := zh_meth hW (lk := [(2, 161, 12, 0, 0), (2, 228, 12, 13, 0)]) (KS := []) (km := []) (lc := []) (CL0 := zc_X12_end) (ns := []) (AN := []) (fuel := 114) (pl := 1664) (by decide +kernel) (by decide +kernel) zd_X12_end (fun K h => nomatch h)
/-- X12_fault -/
def zK_1047 : zk_K := (zt_mn 208, prog_14_method_43_code, 1, (Option.some Jvm.ClassFile.FieldType.int), 1, 12, [(2, 13, 0, 0)], [(some (0, 0, (-2147483648), 2147483647), [])], [(13, 0, 0)], (0, 0, 0, 0))
theorem zq_1047 {l : Launch} {w : zk_W} (hW : zh_W w) : zh_K l w zK_1047 := zh_meth hW (lk := [(2, 161, 12, 0, 0), (2, 38, 12, 18, 0)]) (KS := []) (km := []) (lc := []) (CL0 := zc_X12_fault) (ns := []) (AN := []) (fuel := 74) (pl := 1668) (by decide +kernel) (by decide +kernel) zd_X12_fault (fun K h => nomatch h)
/-- X12_change -/
def zK_1048 : zk_K := (zt_mn 190, prog_14_method_8_code, 4, (Option.some Jvm.ClassFile.FieldType.int), 1, 12, [(2, 13, 0, 0), (0, 0, 4, 4), (0, 0, (-1), (-1))], [(some (0, 0, (-1), 5), [])], [(59, 4028, 0), (13, 1, 0)], (0, 0, 0, 0))
theorem zq_1048 {l : Launch} {w : zk_W} (hW : zh_W w) : zh_K l w zK_1048 := zh_meth hW (lk := [(2, 13, 12, 3, 18), (2, 164, 12, 1, 0)]) (KS := []) (km := []) (lc := []) (CL0 := zc_X12_change) (ns := []) (AN := []) (fuel := 110) (pl := 1590) (by decide +kernel) (by decide +kernel) zd_X12_change (fun K h => nomatch h)
/-- X12_change -/
def zK_1049 : zk_K := (zt_mn 190, prog_14_method_8_code, 4, (Option.some Jvm.ClassFile.FieldType.int), 1, 12, [(2, 13, 0, 0), (0, 0, 4, 4), (0, 0, 0, 5)], [(some (0, 0, (-1), 5), [])], [(59, 4028, 0), (13, 1, 0)], (0, 0, 0, 0))
theorem zq_1049 {l : Launch} {w : zk_W} (hW : zh_W w) : zh_K l w zK_1049 := zh_meth hW (lk := [(2, 13, 12, 3, 18), (2, 164, 12, 1, 0)]) (KS := []) (km := []) (lc := []) (CL0 := zc_X12_change) (ns := []) (AN := []) (fuel := 110) (pl := 1590) (by decide +kernel) (by decide +kernel) zd_X12_change (fun K h => nomatch h)
/-- X12_force -/
def zK_1050 : zk_K := (zt_mn 236, prog_14_method_63_code, 2, (Option.some Jvm.ClassFile.FieldType.int), 1, 12, [(2, 13, 0, 0), (0, 0, (-2147483648), 2147483647)], [(some (0, 0, (-2), 5), [(2, 1, 2147483646)])], [(13, 0, 0), (59, 4028, 0), (13, 1, 0), (58, 1002, 0)], (1, 25, 0, 0))
theorem zq_1050 {l : Launch} {w : zk_W} (hW : zh_W w) : zh_K l w zK_1050 := zh_meth hW (lk := [(2, 161, 12, 0, 0), (2, 13, 12, 3, 18)]) (KS := [zK_1011, zK_1048, zK_1049, zK_1002]) (km := [186, 190, 190, 183]) (lc := [(1, 181, 186), (0, 196, 190), (0, 170, 183)]) (CL0 := zc_X12_force) (ns := [(25, 0, [(0, 0, 0)]), (31, 1, [(2, 0, 1001)]), (40, 3, [])]) (AN := []) (fuel := 158) (pl := 1792) (by decide +kernel) (by decide +kernel) zd_X12_force (by
  intro K h
  rcases List.mem_cons.mp h with rfl | h
  · exact zq_1011 hW
  rcases List.mem_cons.mp h with rfl | h
  · exact zq_1048 hW
  rcases List.mem_cons.mp h with rfl | h
  · exact zq_1049 hW
  rw [List.mem_singleton.mp h]
  exact zq_1002 hW)
/-- X12_in -/
def zK_1051 : zk_K := (zt_mn 186, prog_14_method_3_code, 6, (Option.some Jvm.ClassFile.FieldType.boolean), 0, 12, [(1, 0, (-9223372036854775808), 9223372036854775807), (1, 0, 0, 0), (1, 0, 12, 12)], [(some (0, 0, 0, 0), []), (some (0, 0, 1, 1), [(0, 1, 12), (0, 2, 0), (0, 3, 11), (0, 99, 12), (1, 0, 0), (2, 0, 12), (3, 0, 1), (99, 0, 0)])], [], (0, 0, 0, 0))
theorem zq_1051 {l : Launch} {w : zk_W} (hW : zh_W w) : zh_K l w zK_1051 := zh_meth hW (lk := []) (KS := []) (km := []) (lc := []) (CL0 := zc_X12_in) (ns := []) (AN := []) (fuel := 98) (pl := 1572) (by decide +kernel) (by decide +kernel) zd_X12_in (fun K h => nomatch h)
/-- X12_in -/
def zK_1052 : zk_K := (zt_mn 186, prog_14_method_3_code, 6, (Option.some Jvm.ClassFile.FieldType.boolean), 0, 12, [(1, 0, (-9223372036854775808), 9223372036854775807), (1, 0, 0, 0), (1, 0, 1, 1)], [(some (0, 0, 0, 0), []), (some (0, 0, 1, 1), [(0, 1, 1), (0, 2, 0), (0, 3, 0), (0, 99, 1), (1, 0, 0), (2, 0, 1), (3, 0, 1), (99, 0, 0)])], [], (0, 0, 0, 0))
theorem zq_1052 {l : Launch} {w : zk_W} (hW : zh_W w) : zh_K l w zK_1052 := zh_meth hW (lk := []) (KS := []) (km := []) (lc := []) (CL0 := zc_X12_in) (ns := []) (AN := []) (fuel := 98) (pl := 1572) (by decide +kernel) (by decide +kernel) zd_X12_in (fun K h => nomatch h)
/-- X12_setHour -/
def zK_1053 : zk_K := (zt_mn 239, prog_14_method_68_code, 5, (Option.none : Option Jvm.ClassFile.FieldType), 1, 12, [(2, 13, 0, 0), (0, 0, (-2147483648), 2147483647), (0, 0, (-2147483648), 2147483647), (0, 0, (-2147483648), 2147483647), (0, 0, (-1), (-1))], [(none, [])], [(75, 1002, 0)], (0, 0, 0, 0))
theorem zq_1053 {l : Launch} {w : zk_W} (hW : zh_W w) : zh_K l w zK_1053 := zh_meth hW (lk := [(2, 101, 12, 35, 18), (1, 267, 0, 0, (-1))]) (KS := []) (km := []) (lc := [(0, 207, 195)]) (CL0 := zc_X12_setHour) (ns := []) (AN := []) (fuel := 262) (pl := 1805) (by decide +kernel) (by decide +kernel) zd_X12_setHour (fun K h => nomatch h)
/-- X12_within -/
def zK_1055 : zk_K := (zt_mn 245, prog_14_method_6_code, 4, (Option.some Jvm.ClassFile.FieldType.int), 0, 12, [(1, 0, (-9223372036854775808), 9223372036854775807), (0, 0, 0, 0), (0, 0, 100, 100)], [(some (0, 0, 0, 100), [(0, 3, 9223372036854775707), (3, 0, 9223372036854775808)])], [], (0, 0, 0, 0))
theorem zq_1055 {l : Launch} {w : zk_W} (hW : zh_W w) : zh_K l w zK_1055 := zh_meth hW (lk := []) (KS := []) (km := []) (lc := []) (CL0 := zc_X12_within) (ns := []) (AN := []) (fuel := 118) (pl := 1830) (by decide +kernel) (by decide +kernel) zd_X12_within (fun K h => nomatch h)
/-- X12_snapsOf -/
def zK_1056 : zk_K := (zt_mn 246, prog_14_method_72_code, 2, (Option.some Jvm.ClassFile.FieldType.int), 1, 12, [(2, 13, 0, 0), (0, 0, (-2147483648), 2147483647)], [(some (0, 0, 0, 100), [])], [(75, 1002, 0), (13, 34, 0), (13, 40, 0), (13, 38, 0), (13, 39, 0), (77, 1001, 0)], (21, 1027, 0, 0))
theorem zq_1056 {l : Launch} {w : zk_W} (hW : zh_W w) : zh_K l w zK_1056 := zh_meth hW (lk := [(1, 271, 0, 0, 10)]) (KS := [zK_1053, zK_1054, zK_1055]) (km := [239, 240, 245]) (lc := [(0, 417, 239), (0, 423, 240), (1, 427, 245)]) (CL0 := zc_X12_snapsOf) (ns := [(29, 1, []), (35, 2, [])]) (AN := []) (fuel := 146) (pl := 1834) (by decide +kernel) (by decide +kernel) zd_X12_snapsOf (by
  intro K h
  rcases List.mem_cons.mp h with rfl | h
  · exact zq_1053 hW
  rcases List.mem_cons.mp h with rfl | h
  · exact zq_1054 hW
  rw [List.mem_singleton.mp h]
  exact zq_1055 hW)
/-- X12_within -/
def zK_1057 : zk_K := (zt_mn 245, prog_14_method_6_code, 4, (Option.some Jvm.ClassFile.FieldType.int), 0, 12, [(1, 0, (-9223372036854775808), 9223372036854775807), (0, 0, 0, 0), (0, 0, 999, 999)], [(some (0, 0, 0, 999), [(0, 3, 9223372036854774808), (3, 0, 9223372036854775808)])], [], (0, 0, 0, 0))
theorem zq_1057 {l : Launch} {w : zk_W} (hW : zh_W w) : zh_K l w zK_1057 := zh_meth hW (lk := []) (KS := []) (km := []) (lc := []) (CL0 := zc_X12_within) (ns := []) (AN := []) (fuel := 118) (pl := 1830) (by decide +kernel) (by decide +kernel) zd_X12_within (fun K h => nomatch h)
/-- X12_wearsOf -/
def zK_1058 : zk_K := (zt_mn 238, prog_14_method_71_code, 2, (Option.some Jvm.ClassFile.FieldType.int), 1, 12, [(2, 13, 0, 0), (0, 0, (-2147483648), 2147483647)], [(some (0, 0, 0, 999), [])], [(75, 1002, 0), (13, 34, 0), (13, 40, 0), (13, 38, 0), (13, 39, 0), (77, 1001, 0)], (21, 1027, 0, 0))
theorem zq_1058 {l : Launch} {w : zk_W} (hW : zh_W w) : zh_K l w zK_1058 := zh_meth hW (lk := []) (KS := [zK_1053, zK_1054, zK_1057]) (km := [239, 240, 245]) (lc := [(0, 417, 239), (0, 423, 240), (1, 427, 245)]) (CL0 := zc_X12_wearsOf) (ns := [(15, 1, []), (22, 2, [])]) (AN := []) (fuel := 122) (pl := 1801) (by decide +kernel) (by decide +kernel) zd_X12_wearsOf (by
  intro K h
  rcases List.mem_cons.mp h with rfl | h
  · exact zq_1053 hW
  rcases List.mem_cons.mp h with rfl | h
  · exact zq_1054 hW
  rw [List.mem_singleton.mp h]
  exact zq_1057 hW)
/-- X12_asks -/
def zK_1059 : zk_K := (zt_mn 237, prog_14_method_74_code, 3, (Option.some Jvm.ClassFile.FieldType.int), 1, 12, [(2, 13, 0, 0), (0, 0, (-2147483648), 2147483647), (0, 0, (-2147483648), 2147483647)], [(some (0, 0, (-1), (-1)), []), (some (0, 0, 0, 999), [(1, 2, 12), (1, 3, 12), (1, 99, 12), (2, 1, 1), (2, 3, 1), (2, 99, 1), (3, 1, 999), (3, 2, 999), (99, 1, 0), (99, 2, 0)])], [(13, 0, 0), (75, 1002, 0), (13, 34, 0), (13, 40, 0), (13, 38, 0), (13, 39, 0), (77, 1001, 0)], (22, 1048, 0, 0))
theorem zq_1059 {l : Launch} {w : zk_W} (hW : zh_W w) : zh_K l w zK_1059 := zh_meth hW (lk := [(2, 161, 12, 0, 0), (1, 431, 0, 0, 12)]) (KS := [zK_1051, zK_1052, zK_1058, zK_1056]) (km := [186, 186, 238, 246]) (lc := [(1, 181, 186), (0, 433, 238), (0, 436, 246)]) (CL0 := zc_X12_asks) (ns := [(14, 0, [(0, 0, 0)]), (21, 1, []), (24, 0, [(0, 0, 0)]), (37, 2, []), (45, 3, [])]) (AN := []) (fuel := 158) (pl := 1796) (by decide +kernel) (by decide +kernel) zd_X12_asks (by
  intro K h
  rcases List.mem_cons.mp h with rfl | h
  · exact zq_1051 hW
  rcases List.mem_cons.mp h with rfl | h
  · exact zq_1052 hW
  rcases List.mem_cons.mp h with rfl | h
  · exact zq_1058 hW
  rw [List.mem_singleton.mp h]
  exact zq_1056 hW)
/-- X12_in -/
def zK_1060 : zk_K := (zt_mn 186, prog_14_method_3_code, 6, (Option.some Jvm.ClassFile.FieldType.boolean), 0, 12, [(1, 0, (-9223372036854775808), 9223372036854775807), (1, 0, 0, 0), (1, 0, 0, 6)], [(some (0, 0, 0, 0), []), (some (0, 0, 1, 1), [(0, 1, 6), (0, 2, 0), (0, 3, 5), (0, 99, 6), (1, 0, 0), (2, 0, 6), (3, 0, 1), (99, 0, 0)])], [], (0, 0, 0, 0))
theorem zq_1060 {l : Launch} {w : zk_W} (hW : zh_W w) : zh_K l w zK_1060 := zh_meth hW (lk := []) (KS := []) (km := []) (lc := []) (CL0 := zc_X12_in) (ns := []) (AN := []) (fuel := 98) (pl := 1572) (by decide +kernel) (by decide +kernel) zd_X12_in (fun K h => nomatch h)
/-- X12_runsOf -/
def zK_1061 : zk_K := (zt_mn 252, prog_14_method_69_code, 4, (Option.some Jvm.ClassFile.FieldType.int), 1, 12, [(2, 13, 0, 0), (0, 0, (-2147483648), 2147483647), (0, 0, (-2147483648), 2147483647), (0, 0, (-2147483648), 2147483647)], [(some (0, 0, 0, 999), [])], [(75, 1002, 0), (13, 34, 0), (13, 40, 0), (13, 38, 0), (13, 39, 0), (77, 1001, 0)], (21, 1027, 0, 0))
theorem zq_1061 {l : Launch} {w : zk_W} (hW : zh_W w) : zh_K l w zK_1061 := zh_meth hW (lk := [(1, 421, 0, 0, 60)]) (KS := [zK_1053, zK_1054, zK_1057]) (km := [239, 240, 245]) (lc := [(0, 417, 239), (0, 423, 240), (1, 427, 245)]) (CL0 := zc_X12_runsOf) (ns := [(13, 1, []), (20, 2, [])]) (AN := []) (fuel := 106) (pl := 1858) (by decide +kernel) (by decide +kernel) zd_X12_runsOf (by
  intro K h
  rcases List.mem_cons.mp h with rfl | h
  · exact zq_1053 hW
  rcases List.mem_cons.mp h with rfl | h
  · exact zq_1054 hW
  rw [List.mem_singleton.mp h]
  exact zq_1057 hW)
/-- X12_within -/
def zK_1062 : zk_K := (zt_mn 245, prog_14_method_6_code, 4, (Option.some Jvm.ClassFile.FieldType.int), 0, 12, [(1, 0, (-9223372036854775808), 9223372036854775807), (0, 0, 0, 0), (0, 0, 100000000, 100000000)], [(some (0, 0, 0, 100000000), [(0, 3, 9223372036754775807), (3, 0, 9223372036854775808)])], [], (0, 0, 0, 0))
theorem zq_1062 {l : Launch} {w : zk_W} (hW : zh_W w) : zh_K l w zK_1062 := zh_meth hW (lk := []) (KS := []) (km := []) (lc := []) (CL0 := zc_X12_within) (ns := []) (AN := []) (fuel := 118) (pl := 1830) (by decide +kernel) (by decide +kernel) zd_X12_within (fun K h => nomatch h)
/-- X12_ofPerson -/
def zK_1063 : zk_K := (zt_mn 195, prog_14_method_17_code, 3, (Option.some Jvm.ClassFile.FieldType.int), 1, 12, [(2, 13, 0, 0), (0, 0, 0, 5), (0, 0, 0, 0)], [(some (0, 0, (-2147483648), 2147483647), [])], [], (0, 0, 0, 0))
theorem zq_1063 {l : Launch} {w : zk_W} (hW : zh_W w) : zh_K l w zK_1063 := zh_meth hW (lk := [(2, 13, 12, 3, 18)]) (KS := []) (km := []) (lc := []) (CL0 := zc_X12_ofPerson) (ns := [(8, 0, [(0, 0, 6)])]) (AN := []) (fuel := 94) (pl := 1612) (by decide +kernel) (by decide +kernel) zd_X12_ofPerson (fun K h => nomatch h)
/-- X12_ofPerson -/
def zK_1064 : zk_K := (zt_mn 195, prog_14_method_17_code, 3, (Option.some Jvm.ClassFile.FieldType.int), 1, 12, [(2, 13, 0, 0), (0, 0, 0, 5), (0, 0, 2, 2)], [(some (0, 0, 0, 9), [])], [], (0, 0, 0, 0))
theorem zq_1064 {l : Launch} {w : zk_W} (hW : zh_W w) : zh_K l w zK_1064 := zh_meth hW (lk := [(2, 13, 12, 3, 18)]) (KS := []) (km := []) (lc := []) (CL0 := zc_X12_ofPerson) (ns := [(8, 0, [(0, 0, 6)])]) (AN := []) (fuel := 94) (pl := 1612) (by decide +kernel) (by decide +kernel) zd_X12_ofPerson (fun K h => nomatch h)
/-- X12_within -/
def zK_1066 : zk_K := (zt_mn 245, prog_14_method_6_code, 4, (Option.some Jvm.ClassFile.FieldType.int), 0, 12, [(1, 0, (-9223372036854775808), 9223372036854775807), (0, 0, 0, 0), (0, 0, 60, 60)], [(some (0, 0, 0, 60), [(0, 3, 9223372036854775747), (3, 0, 9223372036854775808)])], [], (0, 0, 0, 0))
theorem zq_1066 {l : Launch} {w : zk_W} (hW : zh_W w) : zh_K l w zK_1066 := zh_meth hW (lk := []) (KS := []) (km := []) (lc := []) (CL0 := zc_X12_within) (ns := []) (AN := []) (fuel := 118) (pl := 1830) (by decide +kernel) (by decide +kernel) zd_X12_within (fun K h => nomatch h)
/-- X12_canGoOn -/
def zK_1068 : zk_K := (zt_mn 251, prog_14_method_75_code, 2, (Option.some Jvm.ClassFile.FieldType.boolean), 1, 12, [(2, 13, 0, 0), (0, 0, 0, 9)], [(some (0, 0, 0, 0), []), (some (0, 0, 1, 1), [])], [], (1, 22, 0, 0))
theorem zq_1068 {l : Launch} {w : zk_W} (hW : zh_W w) : zh_K l w zK_1068 := zh_meth hW (lk := [(2, 125, 12, 46, 18), (2, 119, 12, 44, 18)]) (KS := [zK_1023]) (km := [196]) (lc := [(0, 188, 196)]) (CL0 := zc_X12_canGoOn) (ns := []) (AN := []) (fuel := 122) (pl := 1854) (by decide +kernel) (by decide +kernel) zd_X12_canGoOn (by
  intro K h
  rw [List.mem_singleton.mp h]
  exact zq_1023 hW)
/-- X12_pick -/
def zK_1069 : zk_K := (zt_mn 250, prog_14_method_76_code, 3, (Option.some Jvm.ClassFile.FieldType.int), 1, 12, [(2, 13, 0, 0), (0, 0, (-2147483648), 2147483647)], [(some (0, 0, (-1), (-1)), []), (some (0, 0, 0, 9), [])], [], (2, 43, 0, 0))
theorem zq_1069 {l : Launch} {w : zk_W} (hW : zh_W w) : zh_K l w zK_1069 := zh_meth hW (lk := [(2, 128, 12, 47, 0), (2, 439, 12, 49, 0), (2, 131, 12, 48, 18), (2, 13, 12, 3, 18)]) (KS := [zK_1068, zK_1022]) (km := [251, 196]) (lc := [(0, 442, 251), (0, 188, 196)]) (CL0 := zc_X12_pick) (ns := [(28, 0, [(0, 0, 0)]), (61, 1, []), (73, 0, [(0, 0, 0)])]) (AN := [(48, ([(0, 0, 0, 0), (1, 0, 0, 0), (2, 0, (-1), (-1)), (2, 13, 0, 0), (0, 0, (-2147483648), 2147483647), (0, 0, 0, 12), (0, 0, (-2147483648), 2147483647)], [], [(3, 47, (6, 0))], [], [(2, (5, 0)), (0, (3, 0)), (1, (4, 0))], [(0, 3), (1, 4)], []), [], 0, 0, (156, [((-13), 5)])),
  (10, ([(0, 0, 0, 0), (1, 0, 0, 0), (2, 0, (-1), (-1)), (2, 13, 0, 0), (0, 0, (-2147483648), 2147483647), (0, 0, 0, 12), (0, 0, (-2147483648), 2147483647)], [(4, 6, 0), (6, 4, 0)], [(3, 47, (6, 0))], [], [(2, (5, 0)), (0, (3, 0))], [(0, 3), (1, 4)], []), [], 0, 0, (325, [((-1), 5)]))]) (fuel := 250) (pl := 1850) (by decide +kernel) (by decide +kernel) zd_X12_pick (by
  intro K h
  rcases List.mem_cons.mp h with rfl | h
  · exact zq_1068 hW
  rw [List.mem_singleton.mp h]
  exact zq_1022 hW)
/-- X12_within -/
def zK_1070 : zk_K := (zt_mn 245, prog_14_method_6_code, 4, (Option.some Jvm.ClassFile.FieldType.int), 0, 12, [(1, 0, (-9223372036854775808), 9223372036854775807), (0, 0, 0, 0), (0, 0, (-2147483648), 2147483647)], [(some (0, 0, (-2147483648), 2147483647), [(2, 3, 2147483647), (3, 0, 9223372036854775808)])], [], (0, 0, 0, 0))
theorem zq_1070 {l : Launch} {w : zk_W} (hW : zh_W w) : zh_K l w zK_1070 := zh_meth hW (lk := []) (KS := []) (km := []) (lc := []) (CL0 := zc_X12_within) (ns := []) (AN := []) (fuel := 118) (pl := 1830) (by decide +kernel) (by decide +kernel) zd_X12_within (fun K h => nomatch h)
/-- X12_ofWork -/
def zK_1071 : zk_K := (zt_mn 196, prog_14_method_18_code, 3, (Option.some Jvm.ClassFile.FieldType.int), 1, 12, [(2, 13, 0, 0), (0, 0, 0, 9), (0, 0, 4, 4)], [(some (0, 0, (-1), 9), [])], [], (0, 0, 0, 0))
theorem zq_1071 {l : Launch} {w : zk_W} (hW : zh_W w) : zh_K l w zK_1071 := zh_meth hW (lk := [(2, 13, 12, 3, 18)]) (KS := []) (km := []) (lc := []) (CL0 := zc_X12_ofWork) (ns := [(8, 0, [(0, 0, 10)])]) (AN := []) (fuel := 94) (pl := 1616) (by decide +kernel) (by decide +kernel) zd_X12_ofWork (fun K h => nomatch h)
/-- X12_setHour -/
def zK_1080 : zk_K := (zt_mn 239, prog_14_method_68_code, 5, (Option.none : Option Jvm.ClassFile.FieldType), 1, 12, [(2, 13, 0, 0), (0, 0, (-2147483648), 2147483647), (0, 0, (-2147483648), 2147483647), (0, 0, (-2147483648), 2147483647), (0, 0, 0, 5)], [(none, [])], [(75, 1002, 0)], (1, 22, 0, 0))
theorem zq_1080 {l : Launch} {w : zk_W} (hW : zh_W w) : zh_K l w zK_1080 := zh_meth hW (lk := [(2, 101, 12, 35, 18), (1, 267, 0, 0, (-1))]) (KS := [zK_1063, zK_1064]) (km := [195, 195]) (lc := [(0, 207, 195)]) (CL0 := zc_X12_setHour) (ns := [(81, 1, [])]) (AN := []) (fuel := 262) (pl := 1805) (by decide +kernel) (by decide +kernel) zd_X12_setHour (by
  intro K h
  rcases List.mem_cons.mp h with rfl | h
  · exact zq_1063 hW
  rw [List.mem_singleton.mp h]
  exact zq_1064 hW)
/-- X12_speedsOf -/
def zK_1081 : zk_K := (zt_mn 249, prog_14_method_70_code, 5, (Option.some Jvm.ClassFile.FieldType.int), 1, 12, [(2, 13, 0, 0), (0, 0, (-2147483648), 2147483647), (0, 0, (-2147483648), 2147483647), (0, 0, (-2147483648), 2147483647), (0, 0, 0, 5)], [(some (0, 0, 0, 60), [])], [(75, 1002, 0), (13, 34, 0), (13, 40, 0), (13, 38, 0), (13, 39, 0), (77, 1001, 0)], (21, 1027, 0, 0))
theorem zq_1081 {l : Launch} {w : zk_W} (hW : zh_W w) : zh_K l w zK_1081 := zh_meth hW (lk := [(1, 224, 0, 0, 5)]) (KS := [zK_1080, zK_1064, zK_1054, zK_1066]) (km := [239, 195, 240, 245]) (lc := [(0, 417, 239), (0, 207, 195), (0, 423, 240), (1, 427, 245)]) (CL0 := zc_X12_speedsOf) (ns := [(23, 1, []), (29, 2, []), (35, 3, [])]) (AN := []) (fuel := 150) (pl := 1846) (by decide +kernel) (by decide +kernel) zd_X12_speedsOf (by
  intro K h
  rcases List.mem_cons.mp h with rfl | h
  · exact zq_1080 hW
  rcases List.mem_cons.mp h with rfl | h
  · exact zq_1064 hW
  rcases List.mem_cons.mp h with rfl | h
  · exact zq_1054 hW
  rw [List.mem_singleton.mp h]
  exact zq_1066 hW)
/-- X12_layDay -/
def zK_1082 : zk_K := (zt_mn 248, prog_14_method_77_code, 8, (Option.none : Option Jvm.ClassFile.FieldType), 1, 12, [(2, 13, 0, 0), (0, 0, (-2147483648), 2147483647)], [(none, [])], [(81, 1002, 0), (82, 1002, 0), (78, 1002, 0), (75, 1002, 0), (13, 34, 0), (13, 40, 0), (13, 38, 0), (13, 39, 0), (77, 1001, 0), (79, 1002, 0), (83, 1002, 0), (80, 1002, 0), (80, 1001, 0)], (22, 1051, 0, 0))
theorem zq_1082 {l : Launch} {w : zk_W} (hW : zh_W w) : zh_K l w zK_1082 := zh_meth hW (lk := [(2, 13, 12, 3, 18), (2, 119, 12, 44, 18), (2, 122, 12, 45, 18), (2, 110, 12, 41, 18), (2, 125, 12, 46, 18), (2, 113, 12, 42, 18), (0, 456, 0, 0, 100000000), (2, 116, 12, 43, 18)]) (KS := [zK_1071, zK_1023, zK_1081, zK_1069, zK_1070, zK_1061, zK_1062]) (km := [196, 196, 249, 250, 245, 252, 245]) (lc := [(0, 188, 196), (0, 445, 249), (0, 449, 250), (1, 427, 245), (0, 452, 252)]) (CL0 := zc_X12_layDay) (ns := [(111, 1, []), (150, 2, []), (158, 3, []), (206, 1, []), (209, 4, []), (230, 1, []), (255, 5, []), (264, 6, [])]) (AN := [(15, ([(0, 0, 0, 0), (1, 0, 0, 0), (2, 0, (-1), (-1)), (2, 13, 0, 0), (0, 0, (-2147483648), 2147483647), (0, 0, 0, 10), (0, 0, 0, 10), (0, 0, (-2147483648), 2147483647), (2, 59, 0, 0)], [(5, 6, 1)], [(3, 3, (8, 0))], [], [(4, (5, 0)), (3, (6, 0)), (2, (7, 0)), (0, (3, 0)), (1, (4, 0))], [(0, 3), (1, 4)], []), [], 0, 0, (1798181, [((-1), 5)])),
  (55, ([(0, 0, 0, 0), (1, 0, 0, 0), (2, 0, (-1), (-1)), (2, 13, 0, 0), (0, 0, (-2147483648), 2147483647), (0, 0, 0, 24), (0, 0, 0, 10), (0, 0, (-2147483648), 2147483647), (2, 59, 0, 0)], [], [(3, 3, (8, 0))], [], [(4, (5, 0)), (3, (6, 0)), (2, (7, 0)), (0, (3, 0)), (1, (4, 0))], [(0, 3), (1, 4)], []), [], 0, 0, (894432, [((-37268), 5)])),
  (73, ([(0, 0, 0, 0), (1, 0, 0, 0), (2, 0, (-1), (-1)), (2, 13, 0, 0), (0, 0, (-2147483648), 2147483647), (0, 0, 0, 10), (0, 0, 0, 23), (0, 0, 0, 10), (0, 0, (-2147483648), 2147483647), (2, 78, 0, 0), (2, 59, 0, 0)], [(5, 7, 1)], [(3, 41, (9, 0)), (3, 3, (10, 0))], [], [(5, (5, 0)), (4, (6, 0)), (3, (7, 0)), (2, (8, 0)), (0, (3, 0)), (1, (4, 0))], [(0, 3), (1, 4)], []), [], 0, 0, (885115, [((-11), 5), ((-37268), 6)])),
  (132, ([(0, 0, 0, 0), (1, 0, 0, 0), (2, 0, (-1), (-1)), (2, 13, 0, 0), (0, 0, (-2147483648), 2147483647), (0, 0, 0, 6), (0, 0, 0, 23), (0, 0, 0, 10), (0, 0, (-2147483648), 2147483647), (2, 78, 0, 0), (2, 59, 0, 0)], [], [(3, 41, (9, 0)), (3, 3, (10, 0))], [], [(5, (5, 0)), (4, (6, 0)), (3, (7, 0)), (2, (8, 0)), (0, (3, 0)), (1, (4, 0))], [(0, 3), (1, 4)], []), [], 0, 0, (875798, [((-121), 5), ((-37268), 6)])),
  (271, ([(0, 0, 0, 0), (1, 0, 0, 0), (2, 0, (-1), (-1)), (2, 13, 0, 0), (0, 0, (-2147483648), 2147483647), (0, 0, 0, 10), (0, 0, 0, 100000000), (0, 0, 0, 23), (0, 0, 0, 10), (2, 78, 0, 0), (2, 59, 0, 0)], [(5, 8, 1)], [(3, 41, (9, 0)), (3, 3, (10, 0))], [], [(5, (5, 0)), (2, (6, 0)), (4, (7, 0)), (3, (8, 0)), (0, (3, 0)), (1, (4, 0))], [(0, 3), (1, 4)], []), [], 0, 0, (866481, [((-847), 5), ((-37268), 7)]))]) (fuel := 738) (pl := 1842) (by decide +kernel) (by decide +kernel) zd_X12_layDay (by
  intro K h
  rcases List.mem_cons.mp h with rfl | h
  · exact zq_1071 hW
  rcases List.mem_cons.mp h with rfl | h
  · exact zq_1023 hW
  rcases List.mem_cons.mp h with rfl | h
  · exact zq_1081 hW
  rcases List.mem_cons.mp h with rfl | h
  · exact zq_1069 hW
  rcases List.mem_cons.mp h with rfl | h
  · exact zq_1070 hW
  rcases List.mem_cons.mp h with rfl | h
  · exact zq_1061 hW
  rw [List.mem_singleton.mp h]
  exact zq_1062 hW)
/-- X12_hour -/
def zK_1083 : zk_K := (zt_mn 247, prog_14_method_79_code, 4, (Option.some Jvm.ClassFile.FieldType.int), 1, 12, [(2, 13, 0, 0), (0, 0, (-2147483648), 2147483647), (0, 0, (-2147483648), 2147483647), (0, 0, (-2147483648), 2147483647)], [(some (0, 0, (-1), (-1)), []), (some (0, 0, (-2147483648), 2147483647), [(1, 2, 12), (1, 3, 12), (1, 4, 2147483660), (1, 99, 12), (2, 1, 23), (2, 3, 23), (2, 4, 2147483671), (2, 99, 23), (3, 1, 6), (3, 2, 6), (3, 4, 2147483654), (3, 99, 6), (4, 1, 2147483647), (4, 2, 2147483647), (4, 3, 2147483647), (99, 1, 0), (99, 2, 0), (99, 3, 0)])], [(13, 0, 0), (81, 1002, 0), (82, 1002, 0), (78, 1002, 0), (75, 1002, 0), (13, 34, 0), (13, 40, 0), (13, 38, 0), (13, 39, 0), (77, 1001, 0), (79, 1002, 0), (83, 1002, 0), (80, 1002, 0), (80, 1001, 0)], (23, 1078, 0, 0))
theorem zq_1083 {l : Launch} {w : zk_W} (hW : zh_W w) : zh_K l w zK_1083 := zh_meth hW (lk := [(2, 161, 12, 0, 0), (1, 431, 0, 0, 12), (1, 215, 0, 0, 23), (2, 13, 12, 3, 18), (2, 110, 12, 41, 18), (2, 113, 12, 42, 18)]) (KS := [zK_1051, zK_1027, zK_1060, zK_1082]) (km := [186, 186, 186, 248]) (lc := [(1, 181, 186), (0, 457, 248)]) (CL0 := zc_X12_hour) (ns := [(14, 0, [(0, 0, 0)]), (23, 1, []), (26, 0, [(0, 0, 0)]), (39, 2, []), (42, 0, [(0, 0, 0)]), (49, 3, [])]) (AN := []) (fuel := 242) (pl := 1838) (by decide +kernel) (by decide +kernel) zd_X12_hour (by
  intro K h
  rcases List.mem_cons.mp h with rfl | h
  · exact zq_1051 hW
  rcases List.mem_cons.mp h with rfl | h
  · exact zq_1027 hW
  rcases List.mem_cons.mp h with rfl | h
  · exact zq_1060 hW
  rw [List.mem_singleton.mp h]
  exact zq_1082 hW)
