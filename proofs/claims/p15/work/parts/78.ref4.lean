/-! part 45: contracts of the reference, by the checker -/
/-- X12_runNow -/
def zK_1126 : zk_K := (zt_mn 283, prog_14_method_104_code, 1, (Option.some Jvm.ClassFile.FieldType.int), 1, 12, [(2, 13, 0, 0)], [(some (0, 0, (-3), 10), [])], [(62, 1001, 0), (63, 1002, 0), (13, 8, 0), (81, 1002, 0), (82, 1002, 0), (78, 1002, 0), (75, 1002, 0), (13, 34, 0), (13, 40, 0), (13, 38, 0), (13, 39, 0), (77, 1001, 0), (79, 1002, 0), (83, 1002, 0), (80, 1002, 0), (80, 1001, 0), (59, 4285, 0), (59, 5571, 0), (59, 6342, 0), (59, 7113, 0), (59, 7884, 0), (59, 8655, 0), (59, 9426, 0), (59, 10206, 0)], (24, 1101, 0, 0))
theorem zq_1126 {l : Launch} {w : zk_W} (hW : zh_W w) : zh_K l w zK_1126 := zh_meth hW (lk := [(2, 13, 12, 3, 18)]) (KS := [zK_1117, zK_1118, zK_1125]) (km := [241, 277, 284]) (lc := [(0, 411, 241), (0, 496, 277), (0, 511, 284)]) (CL0 := zc_X12_runNow) (ns := [(26, 1, []), (30, 2, [])]) (AN := []) (fuel := 122) (pl := 1986) (by decide +kernel) (by decide +kernel) zd_X12_runNow (by
  intro K h
  rcases List.mem_cons.mp h with rfl | h
  · exact zq_1117 hW
  rcases List.mem_cons.mp h with rfl | h
  · exact zq_1118 hW
  rw [List.mem_singleton.mp h]
  exact zq_1125 hW)
/-- X12_run -/
def zK_1127 : zk_K := (zt_mn 282, prog_14_method_105_code, 1, (Option.some Jvm.ClassFile.FieldType.int), 1, 12, [(2, 13, 0, 0)], [(some (0, 0, (-3), 10), [])], [(13, 0, 0), (62, 1001, 0), (63, 1002, 0), (13, 8, 0), (81, 1002, 0), (82, 1002, 0), (78, 1002, 0), (75, 1002, 0), (13, 34, 0), (13, 40, 0), (13, 38, 0), (13, 39, 0), (77, 1001, 0), (79, 1002, 0), (83, 1002, 0), (80, 1002, 0), (80, 1001, 0), (59, 4285, 0), (59, 5571, 0), (59, 6342, 0), (59, 7113, 0), (59, 7884, 0), (59, 8655, 0), (59, 9426, 0), (59, 10206, 0), (13, 1, 0), (58, 1002, 0)], (25, 1121, 0, 0))
theorem zq_1127 {l : Launch} {w : zk_W} (hW : zh_W w) : zh_K l w zK_1127 := zh_meth hW (lk := [(2, 161, 12, 0, 0)]) (KS := [zK_1126, zK_1002]) (km := [283, 183]) (lc := [(0, 514, 283), (0, 170, 183)]) (CL0 := zc_X12_run) (ns := [(10, 1, [])]) (AN := []) (fuel := 82) (pl := 1982) (by decide +kernel) (by decide +kernel) zd_X12_run (by
  intro K h
  rcases List.mem_cons.mp h with rfl | h
  · exact zq_1126 hW
  rw [List.mem_singleton.mp h]
  exact zq_1002 hW)
/-- X12_in -/
def zK_1128 : zk_K := (zt_mn 186, prog_14_method_3_code, 6, (Option.some Jvm.ClassFile.FieldType.boolean), 0, 12, [(1, 0, (-9223372036854775808), 9223372036854775807), (1, 0, 1, 1), (1, 0, 9999, 9999)], [(some (0, 0, 0, 0), []), (some (0, 0, 1, 1), [(0, 1, 9998), (0, 2, 0), (0, 3, 9998), (0, 99, 9999), (1, 0, 0), (2, 0, 9998), (3, 0, 0), (99, 0, (-1))])], [], (0, 0, 0, 0))
theorem zq_1128 {l : Launch} {w : zk_W} (hW : zh_W w) : zh_K l w zK_1128 := zh_meth hW (lk := []) (KS := []) (km := []) (lc := []) (CL0 := zc_X12_in) (ns := []) (AN := []) (fuel := 98) (pl := 1572) (by decide +kernel) (by decide +kernel) zd_X12_in (fun K h => nomatch h)
/-- X12_mendNow -/
def zK_1129 : zk_K := (zt_mn 286, prog_14_method_106_code, 2, (Option.some Jvm.ClassFile.FieldType.int), 1, 12, [(2, 13, 0, 0), (0, 0, (-2147483648), 2147483647)], [(some (0, 0, (-1), (-1)), []), (some (0, 0, (-3), 9999), [(1, 2, 10002), (1, 99, 9999), (2, 1, 9998), (99, 1, (-1))])], [(62, 1001, 0), (63, 1002, 0), (13, 8, 0), (59, 5057, 0)], (2, 44, 0, 0))
theorem zq_1129 {l : Launch} {w : zk_W} (hW : zh_W w) : zh_K l w zK_1129 := zh_meth hW (lk := [(1, 517, 0, 0, 9999), (2, 13, 12, 3, 18)]) (KS := [zK_1128, zK_1118, zK_1102]) (km := [186, 277, 245]) (lc := [(1, 181, 186), (0, 496, 277), (1, 427, 245)]) (CL0 := zc_X12_mendNow) (ns := [(9, 0, [(0, 0, 0)]), (30, 1, []), (53, 2, [])]) (AN := []) (fuel := 222) (pl := 1998) (by decide +kernel) (by decide +kernel) zd_X12_mendNow (by
  intro K h
  rcases List.mem_cons.mp h with rfl | h
  · exact zq_1128 hW
  rcases List.mem_cons.mp h with rfl | h
  · exact zq_1118 hW
  rw [List.mem_singleton.mp h]
  exact zq_1102 hW)
/-- X12_mend -/
def zK_1130 : zk_K := (zt_mn 285, prog_14_method_107_code, 2, (Option.some Jvm.ClassFile.FieldType.int), 1, 12, [(2, 13, 0, 0), (0, 0, (-2147483648), 2147483647)], [(some (0, 0, (-1), (-1)), []), (some (0, 0, (-3), 9999), [(1, 2, 10002), (1, 99, 9999), (2, 1, 9998), (99, 1, (-1))])], [(13, 0, 0), (62, 1001, 0), (63, 1002, 0), (13, 8, 0), (59, 5057, 0), (13, 1, 0), (58, 1002, 0)], (3, 65, 0, 0))
theorem zq_1130 {l : Launch} {w : zk_W} (hW : zh_W w) : zh_K l w zK_1130 := zh_meth hW (lk := [(2, 161, 12, 0, 0)]) (KS := [zK_1129, zK_1002]) (km := [286, 183]) (lc := [(0, 519, 286), (0, 170, 183)]) (CL0 := zc_X12_mend) (ns := [(11, 1, [])]) (AN := []) (fuel := 86) (pl := 1994) (by decide +kernel) (by decide +kernel) zd_X12_mend (by
  intro K h
  rcases List.mem_cons.mp h with rfl | h
  · exact zq_1129 hW
  rw [List.mem_singleton.mp h]
  exact zq_1002 hW)
/-- X12_stopped -/
def zK_1131 : zk_K := (zt_mn 293, prog_14_method_114_code, 1, (Option.some Jvm.ClassFile.FieldType.int), 1, 12, [(2, 13, 0, 0)], [(some (0, 0, (-2147483648), 2147483647), [])], [(13, 0, 0)], (0, 0, 0, 0))
theorem zq_1131 {l : Launch} {w : zk_W} (hW : zh_W w) : zh_K l w zK_1131 := zh_meth hW (lk := [(2, 161, 12, 0, 0), (2, 152, 12, 59, 0)]) (KS := []) (km := []) (lc := []) (CL0 := zc_X12_stopped) (ns := []) (AN := []) (fuel := 74) (pl := 2033) (by decide +kernel) (by decide +kernel) zd_X12_stopped (fun K h => nomatch h)
/-- X12_draw -/
def zK_1134 : zk_K := (zt_mn 296, prog_14_method_115_code, 2, (Option.some Jvm.ClassFile.FieldType.int), 1, 12, [(2, 13, 0, 0), (0, 0, 1, 1000)], [(some (0, 0, (-2147483648), 2147483647), [])], [(13, 61, 0)], (0, 0, 0, 0))
theorem zq_1134 {l : Launch} {w : zk_W} (hW : zh_W w) : zh_K l w zK_1134 := zh_meth hW (lk := [(2, 558, 12, 61, 1), (1, 561, 0, 0, 1103), (1, 563, 0, 0, 12345), (1, 565, 0, 0, 1000003)]) (KS := []) (km := []) (lc := []) (CL0 := zc_X12_draw) (ns := []) (AN := []) (fuel := 118) (pl := 2045) (by decide +kernel) (by decide +kernel) zd_X12_draw (fun K h => nomatch h)
/-- X12_drawMorning -/
def zK_1135 : zk_K := (zt_mn 295, prog_14_method_116_code, 3, (Option.none : Option Jvm.ClassFile.FieldType), 1, 12, [(2, 13, 0, 0)], [(none, [])], [(13, 61, 0), (75, 1002, 0), (13, 34, 0), (13, 40, 0), (13, 38, 0), (13, 39, 0), (77, 1001, 0), (59, 5058, 0)], (23, 1069, 0, 0))
theorem zq_1135 {l : Launch} {w : zk_W} (hW : zh_W w) : zh_K l w zK_1135 := zh_meth hW (lk := [(2, 13, 12, 3, 18)]) (KS := [zK_1134, zK_1117, zK_1056, zK_1119]) (km := [296, 241, 246, 278]) (lc := [(0, 567, 296), (0, 411, 241), (0, 436, 246), (0, 499, 278)]) (CL0 := zc_X12_drawMorning) (ns := [(8, 1, []), (16, 1, []), (34, 1, []), (51, 2, []), (54, 1, []), (70, 3, []), (73, 0, [(0, 0, 0)])]) (AN := []) (fuel := 218) (pl := 2041) (by decide +kernel) (by decide +kernel) zd_X12_drawMorning (by
  intro K h
  rcases List.mem_cons.mp h with rfl | h
  · exact zq_1134 hW
  rcases List.mem_cons.mp h with rfl | h
  · exact zq_1117 hW
  rcases List.mem_cons.mp h with rfl | h
  · exact zq_1056 hW
  rw [List.mem_singleton.mp h]
  exact zq_1119 hW)