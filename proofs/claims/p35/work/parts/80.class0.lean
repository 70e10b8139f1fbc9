/-! part 60: contracts of the class, by the checker -/
/-- X2_init -/
def zK_0 : zk_K := (zt_mn 2, prog_4_method_1_code, 1, (Option.none : Option Jvm.ClassFile.FieldType), 2, 2, [(3, 2, 0, 0)], [(none, [])], [], (1, 60, 3, 22))
theorem zq_0 {l : Launch} {w : zk_W} (hW : zh_W w) : zh_K l w zK_0 := zh_meth hW (lk := [(7, 3, 0, 0, 0), (5, 1, 1, 0, 0), (2, 9, 2, 0, 18), (2, 15, 2, 1, 18), (2, 18, 2, 2, 18), (2, 21, 2, 3, 0), (2, 25, 2, 5, 0)]) (KS := []) (km := []) (lc := []) (CL0 := zc_X2_init) (ns := [(7, 17, []), (15, 18, []), (23, 19, [])]) (AN := []) (fuel := 134) (pl := 156) (by decide +kernel) (by decide +kernel) zd_X2_init (fun K h => nomatch h)
/-- X10_init -/
def zK_2 : zk_K := (zt_mn 3, prog_12_method_1_code, 1, (Option.none : Option Jvm.ClassFile.FieldType), 2, 10, [(3, 11, 0, 0)], [(none, [])], [], (1, 60, 2, 432))
theorem zq_2 {l : Launch} {w : zk_W} (hW : zh_W w) : zh_K l w zK_2 := zh_meth hW (lk := [(7, 3, 0, 0, 0), (5, 1, 1, 0, 0), (2, 11, 10, 0, 18), (2, 17, 10, 1, 18)]) (KS := []) (km := []) (lc := []) (CL0 := zc_X10_init) (ns := [(7, 53, []), (16, 54, [])]) (AN := []) (fuel := 94) (pl := 305) (by decide +kernel) (by decide +kernel) zd_X10_init (fun K h => nomatch h)
/-- X6_init -/
def zK_3 : zk_K := (zt_mn 4, prog_8_method_1_code, 1, (Option.none : Option Jvm.ClassFile.FieldType), 2, 6, [(3, 6, 0, 0)], [(none, [])], [], (1, 60, 2, 73))
theorem zq_3 {l : Launch} {w : zk_W} (hW : zh_W w) : zh_K l w zK_3 := zh_meth hW (lk := [(7, 3, 0, 0, 0), (5, 1, 1, 0, 0), (2, 11, 6, 0, 18), (5, 2, 2, 0, 0), (2, 15, 6, 1, 18)]) (KS := []) (km := []) (lc := []) (CL0 := zc_X6_init) (ns := [(7, 27, []), (15, 28, [])]) (AN := []) (fuel := 94) (pl := 325) (by decide +kernel) (by decide +kernel) zd_X6_init (fun K h => nomatch h)
/-- X3_init -/
def zK_5 : zk_K := (zt_mn 6, prog_5_method_1_code, 1, (Option.none : Option Jvm.ClassFile.FieldType), 2, 3, [(3, 3, 0, 0)], [(none, [])], [], (1, 60, 5, 56))
theorem zq_5 {l : Launch} {w : zk_W} (hW : zh_W w) : zh_K l w zK_5 := zh_meth hW (lk := [(7, 3, 0, 0, 0), (5, 1, 1, 0, 0), (2, 11, 3, 0, 18), (2, 15, 3, 1, 18), (2, 18, 3, 2, 18), (2, 21, 3, 3, 18), (2, 24, 3, 4, 18)]) (KS := []) (km := []) (lc := []) (CL0 := zc_X3_init) (ns := [(7, 20, []), (15, 21, []), (23, 22, []), (31, 23, []), (39, 24, [])]) (AN := []) (fuel := 142) (pl := 372) (by decide +kernel) (by decide +kernel) zd_X3_init (fun K h => nomatch h)
/-- X4_init -/
def zK_6 : zk_K := (zt_mn 7, prog_6_method_1_code, 1, (Option.none : Option Jvm.ClassFile.FieldType), 2, 4, [(3, 4, 0, 0)], [(none, [])], [], (1, 60, 2, 2112))
theorem zq_6 {l : Launch} {w : zk_W} (hW : zh_W w) : zh_K l w zK_6 := zh_meth hW (lk := [(7, 5, 0, 0, 0), (5, 1, 1, 0, 0), (2, 11, 4, 0, 18), (2, 15, 4, 1, 18)]) (KS := []) (km := []) (lc := []) (CL0 := zc_X4_init) (ns := [(7, 25, []), (16, 26, [])]) (AN := []) (fuel := 94) (pl := 403) (by decide +kernel) (by decide +kernel) zd_X4_init (fun K h => nomatch h)
/-- X1_init -/
def zK_7 : zk_K := (zt_mn 8, prog_3_method_1_code, 1, (Option.none : Option Jvm.ClassFile.FieldType), 2, 1, [(3, 1, 0, 0)], [(none, [])], [], (2, 80, 4, 29))
theorem zq_7 {l : Launch} {w : zk_W} (hW : zh_W w) : zh_K l w zK_7 := zh_meth hW (lk := [(7, 3, 0, 0, 0), (3, 9, 2, 7, 0), (2, 12, 1, 0, 18), (2, 18, 1, 3, 0)]) (KS := [zK_0]) (km := [2]) (lc := [(2, 11, 2)]) (CL0 := zc_X1_init) (ns := []) (AN := []) (fuel := 94) (pl := 416) (by decide +kernel) (by decide +kernel) zd_X1_init (by
  intro K h
  rw [List.mem_singleton.mp h]
  exact zq_0 hW)
/-- X8_init -/
def zK_9 : zk_K := (zt_mn 11, prog_10_method_1_code, 4, (Option.none : Option Jvm.ClassFile.FieldType), 2, 8, [(3, 8, 0, 0), (0, 0, 12, 12), (0, 0, 872, 872)], [(none, [])], [], (1, 60, 6, 932))
theorem zq_9 {l : Launch} {w : zk_W} (hW : zh_W w) : zh_K l w zK_9 := zh_meth hW (lk := [(7, 7, 0, 0, 0), (6, 13, 1, 0, 0), (6, 19, 0, 0, 0), (5, 1, 1, 0, 0), (2, 22, 8, 0, 18), (2, 26, 8, 1, 18), (2, 29, 8, 2, 18), (2, 32, 8, 3, 18), (2, 35, 8, 4, 18), (2, 38, 8, 5, 18)]) (KS := []) (km := []) (lc := []) (CL0 := zc_X8_init) (ns := [(17, 30, []), (24, 31, []), (31, 32, []), (38, 33, []), (45, 34, []), (62, 35, [])]) (AN := []) (fuel := 198) (pl := 471) (by decide +kernel) (by decide +kernel) zd_X8_init (fun K h => nomatch h)
/-- X11_isWithin -/
def zK_12 : zk_K := (zt_mn 15, prog_1_method_55_code, 3, (Option.some Jvm.ClassFile.FieldType.boolean), 0, 11, [(0, 0, (-2147483648), 2147483647), (0, 0, (-2147483648), 2147483647), (0, 0, (-2147483648), 2147483647)], [(some (0, 0, 0, 0), [(2, 1, 4294967294)]), (some (0, 0, 1, 1), [(0, 2, 0), (1, 0, 0)])], [], (0, 0, 0, 0))
theorem zq_12 {l : Launch} {w : zk_W} (hW : zh_W w) : zh_K l w zK_12 := zh_meth hW (lk := []) (KS := []) (km := []) (lc := []) (CL0 := zc_X11_isWithin) (ns := []) (AN := []) (fuel := 90) (pl := 607) (by decide +kernel) (by decide +kernel) zd_X11_isWithin (fun K h => nomatch h)
/-- X11_refused -/
def zK_13 : zk_K := (zt_mn 16, prog_1_method_52_code, 2, (Option.some Jvm.ClassFile.FieldType.int), 1, 11, [(2, 12, 0, 0), (0, 0, (-2147483648), 2147483647)], [(some (0, 0, (-1), (-1)), [(1, 2, 0), (1, 99, (-1)), (2, 1, 0), (99, 1, 1)]), (some (0, 0, (-2147483648), 2147483647), [(1, 2, 0), (2, 1, 0)])], [(12, 18, 0), (57, 1002, 0)], (0, 0, 0, 0))
theorem zq_13 {l : Launch} {w : zk_W} (hW : zh_W w) : zh_K l w zK_13 := zh_meth hW (lk := [(2, 438, 11, 18, 0), (2, 104, 11, 19, 18)]) (KS := []) (km := []) (lc := []) (CL0 := zc_X11_refused) (ns := []) (AN := []) (fuel := 258) (pl := 611) (by decide +kernel) (by decide +kernel) zd_X11_refused (fun K h => nomatch h)
/-- X11_answered -/
def zK_14 : zk_K := (zt_mn 17, prog_1_method_51_code, 2, (Option.some Jvm.ClassFile.FieldType.int), 1, 11, [(2, 12, 0, 0), (0, 0, (-2147483648), 2147483647)], [(some (0, 0, (-2147483648), 2147483647), [(1, 2, 0), (2, 1, 0)])], [(12, 18, 0)], (0, 0, 0, 0))
theorem zq_14 {l : Launch} {w : zk_W} (hW : zh_W w) : zh_K l w zK_14 := zh_meth hW (lk := [(2, 438, 11, 18, 0)]) (KS := []) (km := []) (lc := []) (CL0 := zc_X11_answered) (ns := []) (AN := []) (fuel := 70) (pl := 615) (by decide +kernel) (by decide +kernel) zd_X11_answered (fun K h => nomatch h)
/-- X10_clear -/
def zK_16 : zk_K := (zt_mn 19, prog_12_method_2_code, 1, (Option.none : Option Jvm.ClassFile.FieldType), 1, 10, [(2, 11, 0, 0)], [(none, [])], [(11, 3, 0)], (0, 0, 0, 0))
theorem zq_16 {l : Launch} {w : zk_W} (hW : zh_W w) : zh_K l w zK_16 := zh_meth hW (lk := [(2, 20, 10, 3, 0)]) (KS := []) (km := []) (lc := []) (CL0 := zc_X10_clear) (ns := []) (AN := []) (fuel := 66) (pl := 623) (by decide +kernel) (by decide +kernel) zd_X10_clear (fun K h => nomatch h)
/-- X9_addPerson -/
def zK_17 : zk_K := (zt_mn 20, prog_11_method_7_code, 4, (Option.some Jvm.ClassFile.FieldType.int), 1, 9, [(2, 10, 0, 0), (0, 0, (-2147483648), 2147483647), (0, 0, (-2147483648), 2147483647)], [(some (0, 0, (-1), (-1)), []), (some (0, 0, 0, 5), [])], [(17, 1002, 0), (18, 1002, 0), (43, 1002, 0), (10, 1, 0)], (0, 0, 0, 0))
theorem zq_17 {l : Launch} {w : zk_W} (hW : zh_W w) : zh_K l w zK_17 := zh_meth hW (lk := [(2, 68, 9, 1, 0), (2, 58, 9, 18, 18), (2, 97, 2, 0, 34), (2, 100, 2, 1, 34), (2, 15, 9, 2, 18)]) (KS := []) (km := []) (lc := []) (CL0 := zc_X9_addPerson) (ns := []) (AN := []) (fuel := 182) (pl := 627) (by decide +kernel) (by decide +kernel) zd_X9_addPerson (fun K h => nomatch h)
/-- X11_person -/
def zK_18 : zk_K := (zt_mn 18, prog_1_method_3_code, 3, (Option.some Jvm.ClassFile.FieldType.int), 1, 11, [(2, 12, 0, 0), (0, 0, (-2147483648), 2147483647), (0, 0, (-2147483648), 2147483647)], [(some (0, 0, (-1), (-1)), []), (some (0, 0, (-5), 5), [(1, 2, 9), (1, 3, 14), (1, 99, 9), (2, 1, 7), (2, 3, 12), (2, 99, 7), (3, 1, 5), (3, 2, 5), (99, 1, 0), (99, 2, 0)])], [(12, 18, 0), (57, 1002, 0), (11, 3, 0), (17, 1002, 0), (18, 1002, 0), (43, 1002, 0), (10, 1, 0)], (1, 23, 0, 0))
theorem zq_18 {l : Launch} {w : zk_W} (hW : zh_W w) : zh_K l w zK_18 := zh_meth hW (lk := [(2, 10, 11, 0, 18), (2, 121, 9, 1, 0), (2, 23, 11, 2, 18)]) (KS := [zK_12, zK_13, zK_16, zK_17, zK_14]) (km := [15, 16, 19, 20, 17]) (lc := [(1, 107, 15), (0, 111, 16), (0, 124, 19), (0, 127, 20), (0, 118, 17)]) (CL0 := zc_X11_person) (ns := [(22, 1, []), (41, 1, []), (49, 2, []), (59, 3, []), (62, 4, [])]) (AN := []) (fuel := 186) (pl := 619) (by decide +kernel) (by decide +kernel) zd_X11_person (by
  intro K h
  rcases List.mem_cons.mp h with rfl | h
  · exact zq_12 hW
  rcases List.mem_cons.mp h with rfl | h
  · exact zq_13 hW
  rcases List.mem_cons.mp h with rfl | h
  · exact zq_16 hW
  rcases List.mem_cons.mp h with rfl | h
  · exact zq_17 hW
  rw [List.mem_singleton.mp h]
  exact zq_14 hW)
/-- X9_hasPerson -/
def zK_19 : zk_K := (zt_mn 22, prog_11_method_3_code, 2, (Option.some Jvm.ClassFile.FieldType.boolean), 1, 9, [(2, 10, 0, 0), (0, 0, (-2147483648), 2147483647)], [(some (0, 0, 0, 0), []), (some (0, 0, 1, 1), [(1, 2, 4), (1, 99, 5), (2, 1, 1), (99, 1, 0)])], [], (0, 0, 0, 0))
theorem zq_19 {l : Launch} {w : zk_W} (hW : zh_W w) : zh_K l w zK_19 := zh_meth hW (lk := [(2, 68, 9, 1, 0)]) (KS := []) (km := []) (lc := []) (CL0 := zc_X9_hasPerson) (ns := []) (AN := []) (fuel := 102) (pl := 635) (by decide +kernel) (by decide +kernel) zd_X9_hasPerson (fun K h => nomatch h)
/-- X11_oil -/
def zK_20 : zk_K := (zt_mn 21, prog_1_method_4_code, 4, (Option.some Jvm.ClassFile.FieldType.int), 1, 11, [(2, 12, 0, 0), (0, 0, (-2147483648), 2147483647), (0, 0, (-2147483648), 2147483647)], [(some (0, 0, (-1), (-1)), []), (some (0, 0, (-2147483648), 2147483647), [(1, 2, 2147483647), (1, 3, 2147483653), (2, 1, 2147483657), (2, 3, 2147483657), (2, 99, 9), (3, 1, 2147483647), (3, 2, 2147483647), (99, 2, 0)])], [(12, 18, 0), (57, 1002, 0), (17, 1002, 0), (11, 3, 0)], (1, 22, 0, 0))
theorem zq_20 {l : Launch} {w : zk_W} (hW : zh_W w) : zh_K l w zK_20 := zh_meth hW (lk := [(2, 10, 11, 0, 18), (2, 135, 9, 18, 34), (2, 138, 2, 0, 34), (2, 23, 11, 2, 18)]) (KS := [zK_12, zK_13, zK_19, zK_16, zK_14]) (km := [15, 16, 22, 19, 17]) (lc := [(1, 107, 15), (0, 111, 16), (0, 131, 22), (0, 124, 19), (0, 118, 17)]) (CL0 := zc_X11_oil) (ns := [(12, 1, []), (21, 2, []), (30, 1, []), (64, 3, []), (69, 4, [])]) (AN := []) (fuel := 206) (pl := 631) (by decide +kernel) (by decide +kernel) zd_X11_oil (by
  intro K h
  rcases List.mem_cons.mp h with rfl | h
  · exact zq_12 hW
  rcases List.mem_cons.mp h with rfl | h
  · exact zq_13 hW
  rcases List.mem_cons.mp h with rfl | h
  · exact zq_19 hW
  rcases List.mem_cons.mp h with rfl | h
  · exact zq_16 hW
  rw [List.mem_singleton.mp h]
  exact zq_14 hW)
/-- X9_hasWork -/
def zK_21 : zk_K := (zt_mn 26, prog_11_method_4_code, 2, (Option.some Jvm.ClassFile.FieldType.boolean), 1, 9, [(2, 10, 0, 0), (0, 0, (-2147483648), 2147483647)], [(some (0, 0, 0, 0), []), (some (0, 0, 1, 1), [(1, 2, 8), (1, 99, 9), (2, 1, 1), (99, 1, 0)])], [], (0, 0, 0, 0))
theorem zq_21 {l : Launch} {w : zk_W} (hW : zh_W w) : zh_K l w zK_21 := zh_meth hW (lk := [(2, 71, 9, 3, 0)]) (KS := []) (km := []) (lc := []) (CL0 := zc_X9_hasWork) (ns := []) (AN := []) (fuel := 102) (pl := 651) (by decide +kernel) (by decide +kernel) zd_X9_hasWork (fun K h => nomatch h)
/-- X9_isDone -/
def zK_22 : zk_K := (zt_mn 25, prog_11_method_5_code, 2, (Option.some Jvm.ClassFile.FieldType.boolean), 1, 9, [(2, 10, 0, 0), (0, 0, (-2147483648), 2147483647)], [(some (0, 0, 0, 0), []), (some (0, 0, 1, 1), [(1, 2, 8), (1, 99, 9), (2, 1, 1), (99, 1, 0)])], [], (1, 21, 0, 0))
theorem zq_22 {l : Launch} {w : zk_W} (hW : zh_W w) : zh_K l w zK_22 := zh_meth hW (lk := [(2, 58, 9, 18, 18), (2, 91, 2, 2, 34), (2, 21, 9, 5, 18)]) (KS := [zK_21]) (km := [26]) (lc := [(0, 87, 26)]) (CL0 := zc_X9_isDone) (ns := []) (AN := []) (fuel := 122) (pl := 647) (by decide +kernel) (by decide +kernel) zd_X9_isDone (by
  intro K h
  rw [List.mem_singleton.mp h]
  exact zq_21 hW)
/-- X9_worksLeft -/
def zK_23 : zk_K := (zt_mn 24, prog_11_method_6_code, 4, (Option.some Jvm.ClassFile.FieldType.int), 1, 9, [(2, 10, 0, 0), (0, 0, (-2147483648), 2147483647)], [(some (0, 0, (-2147483648), 2147483647), [])], [], (2, 42, 0, 0))
theorem zq_23 {l : Launch} {w : zk_W} (hW : zh_W w) : zh_K l w zK_23 := zh_meth hW (lk := [(2, 71, 9, 3, 0), (2, 18, 9, 4, 18)]) (KS := [zK_22]) (km := [25]) (lc := [(0, 94, 25)]) (CL0 := zc_X9_worksLeft) (ns := []) (AN := [(4, ([(0, 0, 0, 0), (1, 0, 0, 0), (2, 0, (-1), (-1)), (2, 10, 0, 0), (0, 0, (-2147483648), 2147483647), (0, 0, 0, 10), (0, 0, (-2147483648), 2147483647)], [], [], [], [(3, (5, 0)), (2, (6, 0)), (0, (3, 0)), (1, (4, 0))], [(0, 3), (1, 4)], []), [], 0, 0, (10, [((-1), 5)]))]) (fuel := 154) (pl := 643) (by decide +kernel) (by decide +kernel) zd_X9_worksLeft (by
  intro K h
  rw [List.mem_singleton.mp h]
  exact zq_22 hW)
/-- X11_of -/
def zK_24 : zk_K := (zt_mn 23, prog_1_method_5_code, 3, (Option.some Jvm.ClassFile.FieldType.int), 1, 11, [(2, 12, 0, 0), (0, 0, (-2147483648), 2147483647), (0, 0, (-2147483648), 2147483647)], [(some (0, 0, (-1), (-1)), []), (some (0, 0, (-2147483648), 2147483647), [(1, 2, 5), (1, 3, 2147483653), (1, 99, 5), (2, 1, 3), (2, 3, 2147483651), (2, 99, 3), (3, 1, 2147483647), (3, 2, 2147483647), (99, 1, 0), (99, 2, 0)])], [], (3, 65, 0, 0))
theorem zq_24 {l : Launch} {w : zk_W} (hW : zh_W w) : zh_K l w zK_24 := zh_meth hW (lk := [(2, 10, 11, 0, 18), (2, 135, 9, 18, 34), (2, 138, 2, 0, 34), (2, 141, 9, 2, 34), (2, 144, 2, 1, 34)]) (KS := [zK_19, zK_23]) (km := [22, 24]) (lc := [(0, 131, 22), (0, 147, 24)]) (CL0 := zc_X11_of) (ns := [(85, 1, [])]) (AN := []) (fuel := 194) (pl := 639) (by decide +kernel) (by decide +kernel) zd_X11_of (by
  intro K h
  rcases List.mem_cons.mp h with rfl | h
  · exact zq_19 hW
  rw [List.mem_singleton.mp h]
  exact zq_23 hW)
/-- X9_addWork -/
def zK_25 : zk_K := (zt_mn 28, prog_11_method_8_code, 7, (Option.some Jvm.ClassFile.FieldType.int), 1, 9, [(2, 10, 0, 0), (0, 0, (-2147483648), 2147483647), (0, 0, (-2147483648), 2147483647), (0, 0, (-2147483648), 2147483647), (0, 0, (-2147483648), 2147483647), (0, 0, (-2147483648), 2147483647)], [(some (0, 0, (-1), (-1)), []), (some (0, 0, 0, 9), [])], [(44, 1002, 0), (45, 1002, 0), (46, 1002, 0), (47, 1002, 0), (48, 1002, 0), (19, 1002, 0), (10, 3, 0)], (0, 0, 0, 0))
theorem zq_25 {l : Launch} {w : zk_W} (hW : zh_W w) : zh_K l w zK_25 := zh_meth hW (lk := [(2, 71, 9, 3, 0), (2, 18, 9, 4, 18), (2, 21, 9, 5, 18), (2, 24, 9, 6, 18), (2, 27, 9, 7, 18), (2, 30, 9, 8, 18), (2, 58, 9, 18, 18), (2, 91, 2, 2, 34)]) (KS := []) (km := []) (lc := []) (CL0 := zc_X9_addWork) (ns := []) (AN := []) (fuel := 238) (pl := 660) (by decide +kernel) (by decide +kernel) zd_X9_addWork (fun K h => nomatch h)
/-- X11_work -/
def zK_26 : zk_K := (zt_mn 27, prog_1_method_6_code, 6, (Option.some Jvm.ClassFile.FieldType.int), 1, 11, [(2, 12, 0, 0), (0, 0, (-2147483648), 2147483647), (0, 0, (-2147483648), 2147483647), (0, 0, (-2147483648), 2147483647), (0, 0, (-2147483648), 2147483647), (0, 0, (-2147483648), 2147483647)], [(some (0, 0, (-1), (-1)), []), (some (0, 0, (-5), 9), [(1, 2, 2147483646), (1, 3, 2147483647), (1, 4, 2147483646), (1, 6, 2147483649), (2, 1, 2147484248), (2, 3, 600), (2, 4, 599), (2, 5, 2147484248), (2, 6, 605), (2, 99, 600), (3, 1, 2147483671), (3, 2, 22), (3, 4, 22), (3, 5, 2147483671), (3, 6, 28), (3, 99, 23), (4, 1, 2147483747), (4, 2, 98), (4, 3, 99), (4, 5, 2147483747), (4, 6, 104), (4, 99, 99), (5, 2, 2147483646), (5, 3, 2147483647), (5, 4, 2147483646), (5, 6, 2147483649), (6, 1, 2147483646), (6, 2, 8), (6, 3, 9), (6, 4, 8), (6, 5, 2147483646), (99, 2, (-1)), (99, 3, 0), (99, 4, (-1))])], [(12, 18, 0), (57, 1002, 0), (11, 3, 0), (44, 1002, 0), (45, 1002, 0), (46, 1002, 0), (47, 1002, 0), (48, 1002, 0), (19, 1002, 0), (10, 3, 0)], (1, 26, 0, 0))
theorem zq_26 {l : Launch} {w : zk_W} (hW : zh_W w) : zh_K l w zK_26 := zh_meth hW (lk := [(2, 10, 11, 0, 18), (2, 153, 9, 3, 0), (2, 23, 11, 2, 18)]) (KS := [zK_12, zK_13, zK_19, zK_21, zK_16, zK_25, zK_14]) (km := [15, 16, 22, 26, 19, 28, 17]) (lc := [(1, 107, 15), (0, 111, 16), (0, 131, 22), (0, 150, 26), (0, 124, 19), (0, 156, 28), (0, 118, 17)]) (CL0 := zc_X11_work) (ns := [(34, 1, []), (43, 2, []), (61, 3, []), (70, 1, []), (89, 1, []), (97, 4, []), (112, 5, []), (115, 6, [])]) (AN := []) (fuel := 286) (pl := 655) (by decide +kernel) (by decide +kernel) zd_X11_work (by
  intro K h
  rcases List.mem_cons.mp h with rfl | h
  · exact zq_12 hW
  rcases List.mem_cons.mp h with rfl | h
  · exact zq_13 hW
  rcases List.mem_cons.mp h with rfl | h
  · exact zq_19 hW
  rcases List.mem_cons.mp h with rfl | h
  · exact zq_21 hW
  rcases List.mem_cons.mp h with rfl | h
  · exact zq_16 hW
  rcases List.mem_cons.mp h with rfl | h
  · exact zq_25 hW
  rw [List.mem_singleton.mp h]
  exact zq_14 hW)
/-- X11_at -/
def zK_27 : zk_K := (zt_mn 29, prog_1_method_7_code, 3, (Option.some Jvm.ClassFile.FieldType.int), 1, 11, [(2, 12, 0, 0), (0, 0, (-2147483648), 2147483647), (0, 0, (-2147483648), 2147483647)], [(some (0, 0, (-1), (-1)), []), (some (0, 0, (-2147483648), 2147483647), [(1, 2, 9), (1, 3, 2147483657), (1, 99, 9), (2, 1, 5), (2, 3, 2147483653), (2, 99, 5), (3, 1, 2147483647), (3, 2, 2147483647), (99, 1, 0), (99, 2, 0)])], [], (1, 21, 0, 0))
theorem zq_27 {l : Launch} {w : zk_W} (hW : zh_W w) : zh_K l w zK_27 := zh_meth hW (lk := [(2, 10, 11, 0, 18), (2, 160, 9, 4, 34), (2, 163, 9, 5, 34), (2, 166, 9, 6, 34), (2, 169, 9, 7, 34), (2, 172, 9, 8, 34), (2, 135, 9, 18, 34), (2, 175, 2, 2, 34)]) (KS := [zK_21]) (km := [26]) (lc := [(0, 150, 26)]) (CL0 := zc_X11_at) (ns := []) (AN := []) (fuel := 242) (pl := 664) (by decide +kernel) (by decide +kernel) zd_X11_at (by
  intro K h
  rw [List.mem_singleton.mp h]
  exact zq_21 hW)
/-- X11_terms -/
def zK_28 : zk_K := (zt_mn 30, prog_1_method_8_code, 4, (Option.some Jvm.ClassFile.FieldType.int), 1, 11, [(2, 12, 0, 0), (0, 0, (-2147483648), 2147483647), (0, 0, (-2147483648), 2147483647)], [(some (0, 0, (-1), (-1)), []), (some (0, 0, (-2147483648), 2147483647), [(1, 2, 2), (1, 3, 2147483650), (1, 99, 2), (2, 1, 999), (2, 3, 2147484647), (2, 99, 999), (3, 1, 2147483647), (3, 2, 2147483647), (99, 1, 0), (99, 2, 0)])], [(12, 18, 0), (57, 1002, 0), (10, 17, 0), (11, 3, 0), (10, 16, 0), (2, 6, 0)], (1, 22, 0, 0))
theorem zq_28 {l : Launch} {w : zk_W} (hW : zh_W w) : zh_K l w zK_28 := zh_meth hW (lk := [(2, 10, 11, 0, 18), (2, 135, 9, 18, 34), (2, 178, 2, 6, 0), (2, 180, 9, 16, 0), (2, 183, 9, 17, 0), (2, 23, 11, 2, 18)]) (KS := [zK_12, zK_13, zK_16, zK_14]) (km := [15, 16, 19, 17]) (lc := [(1, 107, 15), (0, 111, 16), (0, 124, 19), (0, 118, 17)]) (CL0 := zc_X11_terms) (ns := [(110, 1, []), (118, 2, []), (123, 3, [])]) (AN := []) (fuel := 302) (pl := 668) (by decide +kernel) (by decide +kernel) zd_X11_terms (by
  intro K h
  rcases List.mem_cons.mp h with rfl | h
  · exact zq_12 hW
  rcases List.mem_cons.mp h with rfl | h
  · exact zq_13 hW
  rcases List.mem_cons.mp h with rfl | h
  · exact zq_16 hW
  rw [List.mem_singleton.mp h]
  exact zq_14 hW)
/-- X7_hasRoomFor -/
def zK_29 : zk_K := (zt_mn 32, prog_9_method_2_code, 2, (Option.some Jvm.ClassFile.FieldType.boolean), 1, 7, [(2, 7, 0, 0), (0, 0, (-2147483648), 2147483647)], [(some (0, 0, 0, 0), []), (some (0, 0, 1, 1), [])], [], (0, 0, 0, 0))
theorem zq_29 {l : Launch} {w : zk_W} (hW : zh_W w) : zh_K l w zK_29 := zh_meth hW (lk := [(2, 15, 7, 1, 0)]) (KS := []) (km := []) (lc := []) (CL0 := zc_X7_hasRoomFor) (ns := []) (AN := []) (fuel := 90) (pl := 676) (by decide +kernel) (by decide +kernel) zd_X7_hasRoomFor (fun K h => nomatch h)
/-- X7_addNumber -/
def zK_30 : zk_K := (zt_mn 33, prog_9_method_3_code, 3, (Option.none : Option Jvm.ClassFile.FieldType), 1, 7, [(2, 7, 0, 0), (0, 0, (-2147483648), 2147483647)], [(none, [])], [(29, 1001, 0), (7, 1, 0)], (0, 0, 0, 0))
theorem zq_30 {l : Launch} {w : zk_W} (hW : zh_W w) : zh_K l w zK_30 := zh_meth hW (lk := [(2, 15, 7, 1, 0), (2, 11, 7, 0, 18)]) (KS := []) (km := []) (lc := []) (CL0 := zc_X7_addNumber) (ns := []) (AN := [(3, ([(0, 0, 0, 0), (1, 0, 0, 0), (2, 0, (-1), (-1)), (2, 7, 0, 0), (0, 0, (-2147483648), 2147483647), (0, 0, (-1000000), 24)], [], [], [], [(2, (5, 0)), (0, (3, 0)), (1, (4, 0))], [(0, 3), (1, 4)], []), [], 0, 0, (1000000, [(1, 5)]))]) (fuel := 170) (pl := 680) (by decide +kernel) (by decide +kernel) zd_X7_addNumber (fun K h => nomatch h)
/-- X11_feed -/
def zK_31 : zk_K := (zt_mn 31, prog_1_method_9_code, 6, (Option.some Jvm.ClassFile.FieldType.int), 1, 11, [(2, 12, 0, 0), (0, 0, (-2147483648), 2147483647), (0, 0, (-2147483648), 2147483647), (0, 0, (-2147483648), 2147483647), (0, 0, (-2147483648), 2147483647), (0, 0, (-2147483648), 2147483647)], [(some (0, 0, (-1), (-1)), []), (some (0, 0, 0, 400), [])], [(29, 1001, 0), (7, 1, 0)], (1, 22, 0, 0))
theorem zq_31 {l : Launch} {w : zk_W} (hW : zh_W w) : zh_K l w zK_31 := zh_meth hW (lk := [(2, 67, 11, 8, 18), (2, 193, 7, 1, 0)]) (KS := [zK_29, zK_30]) (km := [32, 33]) (lc := [(0, 186, 32), (0, 189, 33)]) (CL0 := zc_X11_feed) (ns := [(19, 1, []), (27, 1, []), (35, 1, []), (44, 1, []), (53, 1, [])]) (AN := []) (fuel := 174) (pl := 672) (by decide +kernel) (by decide +kernel) zd_X11_feed (by
  intro K h
  rcases List.mem_cons.mp h with rfl | h
  · exact zq_29 hW
  rw [List.mem_singleton.mp h]
  exact zq_30 hW)
/-- X11_end -/
def zK_32 : zk_K := (zt_mn 34, prog_1_method_10_code, 2, (Option.some Jvm.ClassFile.FieldType.int), 1, 11, [(2, 12, 0, 0), (0, 0, (-2147483648), 2147483647)], [(some (0, 0, (-1), (-1)), []), (some (0, 0, 0, 400), [(1, 2, 0), (1, 99, 400), (2, 1, 0), (99, 1, 0)])], [(7, 1, 0)], (0, 0, 0, 0))
theorem zq_32 {l : Launch} {w : zk_W} (hW : zh_W w) : zh_K l w zK_32 := zh_meth hW (lk := [(2, 67, 11, 8, 18), (2, 193, 7, 1, 0)]) (KS := []) (km := []) (lc := []) (CL0 := zc_X11_end) (ns := []) (AN := []) (fuel := 110) (pl := 684) (by decide +kernel) (by decide +kernel) zd_X11_end (fun K h => nomatch h)
/-- X7_byteAt -/
def zK_33 : zk_K := (zt_mn 37, prog_9_method_4_code, 2, (Option.some Jvm.ClassFile.FieldType.int), 1, 7, [(2, 7, 0, 0), (0, 0, (-2147483648), 2147483647)], [(some (0, 0, (-1), (-1)), []), (some (0, 0, (-2147483648), 2147483647), [(1, 2, 2147484047), (1, 99, 399), (2, 1, 2147483647), (99, 1, 0)])], [], (0, 0, 0, 0))
theorem zq_33 {l : Launch} {w : zk_W} (hW : zh_W w) : zh_K l w zK_33 := zh_meth hW (lk := [(2, 15, 7, 1, 0), (2, 11, 7, 0, 18)]) (KS := []) (km := []) (lc := []) (CL0 := zc_X7_byteAt) (ns := []) (AN := []) (fuel := 114) (pl := 696) (by decide +kernel) (by decide +kernel) zd_X7_byteAt (fun K h => nomatch h)
/-- X11_addWorkOfRow -/
def zK_34 : zk_K := (zt_mn 36, prog_1_method_12_code, 6, (Option.some Jvm.ClassFile.FieldType.boolean), 1, 11, [(2, 12, 0, 0), (0, 0, (-2147483648), 2147483647)], [(some (0, 0, 0, 0), []), (some (0, 0, 1, 1), [(1, 2, 395), (1, 99, 396), (2, 1, 1), (99, 1, 0)])], [(44, 1002, 0), (45, 1002, 0), (46, 1002, 0), (47, 1002, 0), (48, 1002, 0), (19, 1002, 0), (10, 3, 0)], (1, 26, 0, 0))
theorem zq_34 {l : Launch} {w : zk_W} (hW : zh_W w) : zh_K l w zK_34 := zh_meth hW (lk := [(2, 67, 11, 8, 18), (2, 10, 11, 0, 18), (2, 153, 9, 3, 0)]) (KS := [zK_33, zK_19, zK_12, zK_25]) (km := [37, 22, 15, 28]) (lc := [(0, 202, 37), (0, 131, 22), (1, 107, 15), (0, 156, 28)]) (CL0 := zc_X11_addWorkOfRow) (ns := [(49, 1, []), (65, 2, []), (76, 2, []), (107, 3, [])]) (AN := []) (fuel := 344) (pl := 692) (by decide +kernel) (by decide +kernel) zd_X11_addWorkOfRow (by
  intro K h
  rcases List.mem_cons.mp h with rfl | h
  · exact zq_33 hW
  rcases List.mem_cons.mp h with rfl | h
  · exact zq_19 hW
  rcases List.mem_cons.mp h with rfl | h
  · exact zq_12 hW
  rw [List.mem_singleton.mp h]
  exact zq_25 hW)
/-- X11_row -/
def zK_35 : zk_K := (zt_mn 35, prog_1_method_11_code, 3, (Option.some Jvm.ClassFile.FieldType.int), 1, 11, [(2, 12, 0, 0)], [(some (0, 0, (-2147483648), 2147483647), [])], [(12, 17, 0), (12, 18, 0), (57, 1002, 0), (44, 1002, 0), (45, 1002, 0), (46, 1002, 0), (47, 1002, 0), (48, 1002, 0), (19, 1002, 0), (10, 3, 0), (7, 1, 0), (11, 3, 0)], (2, 51, 0, 0))
theorem zq_35 {l : Launch} {w : zk_W} (hW : zh_W w) : zh_K l w zK_35 := zh_meth hW (lk := [(2, 67, 11, 8, 18), (2, 193, 7, 1, 0), (2, 196, 11, 17, 0), (2, 23, 11, 2, 18)]) (KS := [zK_13, zK_34, zK_16, zK_14]) (km := [16, 36, 19, 17]) (lc := [(0, 111, 16), (0, 199, 36), (0, 124, 19), (0, 118, 17)]) (CL0 := zc_X11_row) (ns := [(39, 1, []), (79, 2, []), (84, 3, [])]) (AN := [(26, ([(0, 0, 0, 0), (1, 0, 0, 0), (2, 0, (-1), (-1)), (2, 12, 0, 0), (0, 0, 0, 872), (0, 0, (-2147483648), 2147483647), (0, 0, (-2147483648), 2147483647), (2, 7, 0, 0), (0, 0, 1, 400)], [(4, 8, 3)], [(3, 17, (6, 0)), (3, 8, (7, 0)), (7, 1, (8, 0))], [], [(2, (4, 0)), (1, (5, 0)), (0, (3, 0))], [(0, 3)], []), [], 0, 0, (872, [((-1), 4)]))]) (fuel := 230) (pl := 688) (by decide +kernel) (by decide +kernel) zd_X11_row (by
  intro K h
  rcases List.mem_cons.mp h with rfl | h
  · exact zq_13 hW
  rcases List.mem_cons.mp h with rfl | h
  · exact zq_34 hW
  rcases List.mem_cons.mp h with rfl | h
  · exact zq_16 hW
  rw [List.mem_singleton.mp h]
  exact zq_14 hW)
