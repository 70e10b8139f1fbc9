/-! part 61: contracts of the class, by the checker -/
/-- X11_dust -/
def zK_36 : zk_K := (zt_mn 38, prog_1_method_13_code, 1, (Option.some Jvm.ClassFile.FieldType.int), 1, 11, [(2, 12, 0, 0)], [(some (0, 0, (-2147483648), 2147483647), [])], [], (0, 0, 0, 0))
theorem zq_36 {l : Launch} {w : zk_W} (hW : zh_W w) : zh_K l w zK_36 := zh_meth hW (lk := [(2, 196, 11, 17, 0)]) (KS := []) (km := []) (lc := []) (CL0 := zc_X11_dust) (ns := []) (AN := []) (fuel := 62) (pl := 700) (by decide +kernel) (by decide +kernel) zd_X11_dust (fun K h => nomatch h)
/-- X8_clear -/
def zK_37 : zk_K := (zt_mn 41, prog_10_method_3_code, 1, (Option.none : Option Jvm.ClassFile.FieldType), 1, 8, [(2, 8, 0, 0)], [(none, [])], [(8, 6, 0), (8, 7, 0)], (0, 0, 0, 0))
theorem zq_37 {l : Launch} {w : zk_W} (hW : zh_W w) : zh_K l w zK_37 := zh_meth hW (lk := [(2, 41, 8, 6, 0), (2, 45, 8, 7, 0)]) (KS := []) (km := []) (lc := []) (CL0 := zc_X8_clear) (ns := []) (AN := []) (fuel := 78) (pl := 712) (by decide +kernel) (by decide +kernel) zd_X8_clear (fun K h => nomatch h)
/-- X7_kindOf -/
def zK_38 : zk_K := (zt_mn 44, prog_9_method_7_code, 1, (Option.some Jvm.ClassFile.FieldType.int), 0, 7, [(0, 0, (-2147483648), 2147483647)], [(some (0, 0, 1, 3), [(0, 1, 2147483644)])], [], (0, 0, 0, 0))
theorem zq_38 {l : Launch} {w : zk_W} (hW : zh_W w) : zh_K l w zK_38 := zh_meth hW (lk := []) (KS := []) (km := []) (lc := []) (CL0 := zc_X7_kindOf) (ns := []) (AN := []) (fuel := 122) (pl := 724) (by decide +kernel) (by decide +kernel) zd_X7_kindOf (fun K h => nomatch h)
/-- X7_next -/
def zK_39 : zk_K := (zt_mn 43, prog_9_method_6_code, 1, (Option.none : Option Jvm.ClassFile.FieldType), 1, 7, [(2, 7, 0, 0)], [(none, [])], [(7, 3, 0), (7, 5, 0), (7, 2, 0), (7, 4, 0)], (1, 21, 0, 0))
theorem zq_39 {l : Launch} {w : zk_W} (hW : zh_W w) : zh_K l w zK_39 := zh_meth hW (lk := [(2, 19, 7, 4, 0), (2, 15, 7, 1, 0), (2, 29, 7, 3, 0), (2, 32, 7, 5, 0), (2, 35, 7, 2, 0)]) (KS := [zK_33, zK_38]) (km := [37, 44]) (lc := [(0, 25, 37), (1, 38, 44)]) (CL0 := zc_X7_next) (ns := [(76, 1, []), (139, 1, [])]) (AN := [(112, ([(0, 0, 0, 0), (1, 0, 0, 0), (2, 0, (-1), (-1)), (2, 7, 0, 0), (0, 0, (-2147483647), 400), (0, 0, 1, 3), (0, 0, (-2147483648), 2147483647), (0, 0, (-2147483648), 399), (0, 0, 0, 400)], [(4, 8, 0), (7, 4, (-1)), (7, 8, (-1))], [(3, 4, (4, 0)), (3, 2, (5, 0)), (3, 5, (6, 0)), (3, 3, (7, 0)), (3, 1, (8, 0))], [], [(0, (3, 0))], [(0, 3)], []), [], 0, 0, (160400, [((-401), 4)])),
  (0, ([(0, 0, 0, 0), (1, 0, 0, 0), (2, 0, (-1), (-1)), (2, 7, 0, 0), (0, 0, 1, 400), (0, 0, 0, 400)], [(4, 5, 0)], [(3, 4, (4, 0)), (3, 1, (5, 0))], [], [(0, (3, 0))], [(0, 3)], []), [], 0, 0, (861141263648, [((-1), 4)]))]) (fuel := 577) (pl := 720) (by decide +kernel) (by decide +kernel) zd_X7_next (by
  intro K h
  rcases List.mem_cons.mp h with rfl | h
  · exact zq_33 hW
  rw [List.mem_singleton.mp h]
  exact zq_38 hW)
/-- X7_rewind -/
def zK_40 : zk_K := (zt_mn 42, prog_9_method_5_code, 1, (Option.none : Option Jvm.ClassFile.FieldType), 1, 7, [(2, 7, 0, 0)], [(none, [])], [(7, 4, 0), (7, 3, 0), (7, 5, 0), (7, 2, 0)], (2, 41, 0, 0))
theorem zq_40 {l : Launch} {w : zk_W} (hW : zh_W w) : zh_K l w zK_40 := zh_meth hW (lk := [(2, 19, 7, 4, 0)]) (KS := [zK_39]) (km := [43]) (lc := [(0, 22, 43)]) (CL0 := zc_X7_rewind) (ns := []) (AN := []) (fuel := 74) (pl := 716) (by decide +kernel) (by decide +kernel) zd_X7_rewind (by
  intro K h
  rw [List.mem_singleton.mp h]
  exact zq_39 hW)
/-- X7_wordIn -/
def zK_43 : zk_K := (zt_mn 46, prog_9_method_10_code, 6, (Option.some Jvm.ClassFile.FieldType.int), 1, 7, [(2, 7, 0, 0), (2, 209, 0, 0)], [(some (0, 0, (-1), (-1)), []), (some (0, 0, 0, 31), [])], [], (9, 221, 0, 0))
theorem zq_43 {l : Launch} {w : zk_W} (hW : zh_W w) : zh_K l w zK_43 := zh_meth hW (lk := [(2, 35, 7, 2, 0), (2, 29, 7, 3, 0), (2, 19, 7, 4, 0)]) (KS := [zK_41, zK_42, zK_33]) (km := [47, 49, 37]) (lc := [(0, 45, 47), (0, 50, 49), (0, 25, 37)]) (CL0 := zc_X7_wordIn) (ns := [(38, 1, []), (67, 2, []), (109, 0, [(0, 0, 0)])]) (AN := [(17, ([(0, 0, 0, 0), (1, 0, 0, 0), (2, 0, (-1), (-1)), (2, 7, 0, 0), (2, 209, 0, 0), (0, 0, 0, 31), (0, 0, (-1), 31), (0, 0, 0, 31), (0, 0, 1, 1)], [(6, 5, 0), (7, 5, 0), (7, 6, 29)], [(3, 2, (8, 0))], [], [(4, (5, 0)), (3, (6, 0)), (2, (7, 0)), (0, (3, 0)), (1, (4, 0))], [(0, 3), (1, 4)], []), [], 0, 0, (31, [((-1), 5)]))]) (fuel := 302) (pl := 733) (by decide +kernel) (by decide +kernel) zd_X7_wordIn (by
  intro K h
  rcases List.mem_cons.mp h with rfl | h
  · exact zq_41 hW
  rcases List.mem_cons.mp h with rfl | h
  · exact zq_42 hW
  rw [List.mem_singleton.mp h]
  exact zq_33 hW)
/-- X8_isOpened -/
def zK_44 : zk_K := (zt_mn 58, prog_10_method_4_code, 2, (Option.some Jvm.ClassFile.FieldType.boolean), 1, 8, [(2, 8, 0, 0), (0, 0, (-2147483648), 2147483647)], [(some (0, 0, 0, 0), []), (some (0, 0, 1, 1), [])], [(30, 1002, 0), (31, 1002, 0), (32, 1002, 0), (33, 1002, 0), (34, 1002, 0), (8, 6, 0)], (0, 0, 0, 0))
theorem zq_44 {l : Launch} {w : zk_W} (hW : zh_W w) : zh_K l w zK_44 := zh_meth hW (lk := [(2, 41, 8, 6, 0), (2, 22, 8, 0, 18), (2, 26, 8, 1, 18), (2, 29, 8, 2, 18), (2, 32, 8, 3, 18), (2, 35, 8, 4, 18)]) (KS := []) (km := []) (lc := []) (CL0 := zc_X8_isOpened) (ns := []) (AN := []) (fuel := 234) (pl := 785) (by decide +kernel) (by decide +kernel) zd_X8_isOpened (fun K h => nomatch h)
/-- X7_wordIn -/
def zK_47 : zk_K := (zt_mn 46, prog_9_method_10_code, 6, (Option.some Jvm.ClassFile.FieldType.int), 1, 7, [(2, 7, 0, 0), (2, 205, 0, 0)], [(some (0, 0, (-1), (-1)), []), (some (0, 0, 0, 12), [])], [], (9, 221, 0, 0))
theorem zq_47 {l : Launch} {w : zk_W} (hW : zh_W w) : zh_K l w zK_47 := zh_meth hW (lk := [(2, 35, 7, 2, 0), (2, 29, 7, 3, 0), (2, 19, 7, 4, 0)]) (KS := [zK_45, zK_46, zK_33]) (km := [47, 49, 37]) (lc := [(0, 45, 47), (0, 50, 49), (0, 25, 37)]) (CL0 := zc_X7_wordIn) (ns := [(38, 1, []), (67, 2, []), (109, 0, [(0, 0, 0)])]) (AN := [(17, ([(0, 0, 0, 0), (1, 0, 0, 0), (2, 0, (-1), (-1)), (2, 7, 0, 0), (2, 205, 0, 0), (0, 0, 0, 12), (0, 0, (-1), 2), (0, 0, 0, 12), (0, 0, 1, 1)], [(6, 5, 0), (7, 5, 0), (7, 6, 3)], [(3, 2, (8, 0))], [], [(4, (5, 0)), (3, (6, 0)), (2, (7, 0)), (0, (3, 0)), (1, (4, 0))], [(0, 3), (1, 4)], []), [], 0, 0, (12, [((-1), 5)]))]) (fuel := 302) (pl := 733) (by decide +kernel) (by decide +kernel) zd_X7_wordIn (by
  intro K h
  rcases List.mem_cons.mp h with rfl | h
  · exact zq_45 hW
  rcases List.mem_cons.mp h with rfl | h
  · exact zq_46 hW
  rw [List.mem_singleton.mp h]
  exact zq_33 hW)
/-- X7_isWord -/
def zK_48 : zk_K := (zt_mn 68, prog_9_method_9_code, 2, (Option.some Jvm.ClassFile.FieldType.boolean), 1, 7, [(2, 7, 0, 0), (2, 205, 0, 0)], [(some (0, 0, 0, 0), []), (some (0, 0, 1, 1), [])], [], (10, 246, 0, 0))
theorem zq_48 {l : Launch} {w : zk_W} (hW : zh_W w) : zh_K l w zK_48 := zh_meth hW (lk := []) (KS := [zK_47]) (km := [46]) (lc := [(0, 41, 46)]) (CL0 := zc_X7_isWord) (ns := []) (AN := []) (fuel := 82) (pl := 831) (by decide +kernel) (by decide +kernel) zd_X7_isWord (by
  intro K h
  rw [List.mem_singleton.mp h]
  exact zq_47 hW)
/-- X8_tell -/
def zK_49 : zk_K := (zt_mn 60, prog_10_method_5_code, 3, (Option.none : Option Jvm.ClassFile.FieldType), 1, 8, [(2, 8, 0, 0), (2, 34, 0, 0), (0, 0, (-1), 872)], [(none, [])], [(34, 1002, 0)], (0, 0, 0, 0))
theorem zq_49 {l : Launch} {w : zk_W} (hW : zh_W w) : zh_K l w zK_49 := zh_meth hW (lk := [(2, 41, 8, 6, 0)]) (KS := []) (km := []) (lc := []) (CL0 := zc_X8_tell) (ns := []) (AN := []) (fuel := 118) (pl := 794) (by decide +kernel) (by decide +kernel) zd_X8_tell (fun K h => nomatch h)
/-- X7_wordIn -/
def zK_52 : zk_K := (zt_mn 46, prog_9_method_10_code, 6, (Option.some Jvm.ClassFile.FieldType.int), 1, 7, [(2, 7, 0, 0), (2, 206, 0, 0)], [(some (0, 0, (-1), (-1)), []), (some (0, 0, 0, 12), [])], [], (9, 221, 0, 0))
theorem zq_52 {l : Launch} {w : zk_W} (hW : zh_W w) : zh_K l w zK_52 := zh_meth hW (lk := [(2, 35, 7, 2, 0), (2, 29, 7, 3, 0), (2, 19, 7, 4, 0)]) (KS := [zK_50, zK_51, zK_33]) (km := [47, 49, 37]) (lc := [(0, 45, 47), (0, 50, 49), (0, 25, 37)]) (CL0 := zc_X7_wordIn) (ns := [(38, 1, []), (67, 2, []), (109, 0, [(0, 0, 0)])]) (AN := [(17, ([(0, 0, 0, 0), (1, 0, 0, 0), (2, 0, (-1), (-1)), (2, 7, 0, 0), (2, 206, 0, 0), (0, 0, 0, 12), (0, 0, (-1), 12), (0, 0, 0, 12), (0, 0, 1, 1)], [(6, 5, 0), (7, 5, 0), (7, 6, 4)], [(3, 2, (8, 0))], [], [(4, (5, 0)), (3, (6, 0)), (2, (7, 0)), (0, (3, 0)), (1, (4, 0))], [(0, 3), (1, 4)], []), [], 0, 0, (12, [((-1), 5)]))]) (fuel := 302) (pl := 733) (by decide +kernel) (by decide +kernel) zd_X7_wordIn (by
  intro K h
  rcases List.mem_cons.mp h with rfl | h
  · exact zq_50 hW
  rcases List.mem_cons.mp h with rfl | h
  · exact zq_51 hW
  rw [List.mem_singleton.mp h]
  exact zq_33 hW)
/-- X7_isWord -/
def zK_53 : zk_K := (zt_mn 68, prog_9_method_9_code, 2, (Option.some Jvm.ClassFile.FieldType.boolean), 1, 7, [(2, 7, 0, 0), (2, 206, 0, 0)], [(some (0, 0, 0, 0), []), (some (0, 0, 1, 1), [])], [], (10, 246, 0, 0))
theorem zq_53 {l : Launch} {w : zk_W} (hW : zh_W w) : zh_K l w zK_53 := zh_meth hW (lk := []) (KS := [zK_52]) (km := [46]) (lc := [(0, 41, 46)]) (CL0 := zc_X7_isWord) (ns := []) (AN := []) (fuel := 82) (pl := 831) (by decide +kernel) (by decide +kernel) zd_X7_isWord (by
  intro K h
  rw [List.mem_singleton.mp h]
  exact zq_52 hW)
/-- X7_isSign -/
def zK_54 : zk_K := (zt_mn 64, prog_9_method_8_code, 2, (Option.some Jvm.ClassFile.FieldType.boolean), 1, 7, [(2, 7, 0, 0), (0, 0, (-2147483648), 2147483647)], [(some (0, 0, 0, 0), []), (some (0, 0, 1, 1), [])], [], (0, 0, 0, 0))
theorem zq_54 {l : Launch} {w : zk_W} (hW : zh_W w) : zh_K l w zK_54 := zh_meth hW (lk := [(2, 32, 7, 5, 0)]) (KS := []) (km := []) (lc := []) (CL0 := zc_X7_isSign) (ns := []) (AN := []) (fuel := 82) (pl := 810) (by decide +kernel) (by decide +kernel) zd_X7_isSign (fun K h => nomatch h)
/-- X7_wordIn -/
def zK_57 : zk_K := (zt_mn 46, prog_9_method_10_code, 6, (Option.some Jvm.ClassFile.FieldType.int), 1, 7, [(2, 7, 0, 0), (2, 202, 0, 0)], [(some (0, 0, (-1), (-1)), []), (some (0, 0, 0, 400), [])], [], (9, 221, 0, 0))
theorem zq_57 {l : Launch} {w : zk_W} (hW : zh_W w) : zh_K l w zK_57 := zh_meth hW (lk := [(2, 35, 7, 2, 0), (2, 29, 7, 3, 0), (2, 19, 7, 4, 0)]) (KS := [zK_55, zK_56, zK_33]) (km := [47, 49, 37]) (lc := [(0, 45, 47), (0, 50, 49), (0, 25, 37)]) (CL0 := zc_X7_wordIn) (ns := [(38, 1, []), (67, 2, []), (109, 0, [(0, 0, 0)])]) (AN := [(17, ([(0, 0, 0, 0), (1, 0, 0, 0), (2, 0, (-1), (-1)), (2, 7, 0, 0), (2, 202, 0, 0), (0, 0, 0, 400), (0, 0, (-1), 400), (0, 0, 0, 400), (0, 0, 1, 1)], [(6, 5, 0), (7, 5, 0)], [(3, 2, (8, 0))], [], [(4, (5, 0)), (3, (6, 0)), (2, (7, 0)), (0, (3, 0)), (1, (4, 0))], [(0, 3), (1, 4)], []), [], 0, 0, (400, [((-1), 5)]))]) (fuel := 302) (pl := 733) (by decide +kernel) (by decide +kernel) zd_X7_wordIn (by
  intro K h
  rcases List.mem_cons.mp h with rfl | h
  · exact zq_55 hW
  rcases List.mem_cons.mp h with rfl | h
  · exact zq_56 hW
  rw [List.mem_singleton.mp h]
  exact zq_33 hW)
/-- X7_wordIn -/
def zK_60 : zk_K := (zt_mn 46, prog_9_method_10_code, 6, (Option.some Jvm.ClassFile.FieldType.int), 1, 7, [(2, 7, 0, 0), (2, 201, 0, 0)], [(some (0, 0, (-1), (-1)), []), (some (0, 0, 0, 400), [])], [], (9, 221, 0, 0))
theorem zq_60 {l : Launch} {w : zk_W} (hW : zh_W w) : zh_K l w zK_60 := zh_meth hW (lk := [(2, 35, 7, 2, 0), (2, 29, 7, 3, 0), (2, 19, 7, 4, 0)]) (KS := [zK_58, zK_59, zK_33]) (km := [47, 49, 37]) (lc := [(0, 45, 47), (0, 50, 49), (0, 25, 37)]) (CL0 := zc_X7_wordIn) (ns := [(38, 1, []), (67, 2, []), (109, 0, [(0, 0, 0)])]) (AN := [(17, ([(0, 0, 0, 0), (1, 0, 0, 0), (2, 0, (-1), (-1)), (2, 7, 0, 0), (2, 201, 0, 0), (0, 0, 0, 400), (0, 0, (-1), 400), (0, 0, 0, 400), (0, 0, 1, 1)], [(6, 5, 0), (7, 5, 0)], [(3, 2, (8, 0))], [], [(4, (5, 0)), (3, (6, 0)), (2, (7, 0)), (0, (3, 0)), (1, (4, 0))], [(0, 3), (1, 4)], []), [], 0, 0, (400, [((-1), 5)]))]) (fuel := 302) (pl := 733) (by decide +kernel) (by decide +kernel) zd_X7_wordIn (by
  intro K h
  rcases List.mem_cons.mp h with rfl | h
  · exact zq_58 hW
  rcases List.mem_cons.mp h with rfl | h
  · exact zq_59 hW
  rw [List.mem_singleton.mp h]
  exact zq_33 hW)
/-- X7_numberWithin -/
def zK_61 : zk_K := (zt_mn 65, prog_9_method_11_code, 5, (Option.some Jvm.ClassFile.FieldType.int), 1, 7, [(2, 7, 0, 0), (0, 0, (-2147483648), 2147483647), (0, 0, (-2147483648), 2147483647)], [(some (0, 0, (-1), (-1)), []), (some (0, 0, (-2147483648), 10000), [(1, 2, 2147493648), (1, 3, 0), (1, 99, 10000), (3, 2, 0)])], [], (1, 60, 0, 0))
theorem zq_61 {l : Launch} {w : zk_W} (hW : zh_W w) : zh_K l w zK_61 := zh_meth hW (lk := [(2, 35, 7, 2, 0), (2, 29, 7, 3, 0), (2, 19, 7, 4, 0), (6, 54, 1, 0, 0)]) (KS := [zK_33, zK_12]) (km := [37, 15]) (lc := [(0, 25, 37), (4, 60, 15)]) (CL0 := zc_X7_numberWithin) (ns := [(57, 1, [])]) (AN := [(18, ([(0, 0, 0, 0), (1, 0, 0, 0), (2, 0, (-1), (-1)), (2, 7, 0, 0), (0, 0, (-2147483648), 2147483647), (0, 0, (-2147483648), 2147483647), (0, 0, (-2147483648), 2147483647), (0, 0, (-2147483648), 10000), (0, 0, (-2147483648), 2147483647), (0, 0, 2, 2)], [(8, 6, 0)], [(3, 3, (8, 0)), (3, 2, (9, 0))], [], [(4, (6, 0)), (3, (7, 0)), (0, (3, 0)), (1, (4, 0)), (2, (5, 0))], [(0, 3), (1, 4), (2, 5)], []), [], 0, 0, (2147483647, [((-1), 6)]))]) (fuel := 202) (pl := 814) (by decide +kernel) (by decide +kernel) zd_X7_numberWithin (by
  intro K h
  rcases List.mem_cons.mp h with rfl | h
  · exact zq_33 hW
  rw [List.mem_singleton.mp h]
  exact zq_12 hW)
/-- X8_add -/
def zK_62 : zk_K := (zt_mn 66, prog_10_method_6_code, 4, (Option.some Jvm.ClassFile.FieldType.int), 1, 8, [(2, 8, 0, 0), (0, 0, (-1000000), 1000000), (0, 0, (-1000000), 1000000)], [(some (0, 0, 0, 872), [])], [(35, 1001, 0), (8, 7, 0)], (0, 0, 0, 0))
theorem zq_62 {l : Launch} {w : zk_W} (hW : zh_W w) : zh_K l w zK_62 := zh_meth hW (lk := [(2, 45, 8, 7, 0), (2, 38, 8, 5, 18)]) (KS := []) (km := []) (lc := []) (CL0 := zc_X8_add) (ns := []) (AN := []) (fuel := 166) (pl := 822) (by decide +kernel) (by decide +kernel) zd_X8_add (fun K h => nomatch h)
/-- X5_part -/
def zK_63 : zk_K := (zt_mn 63, prog_7_method_16_code, 6, (Option.some Jvm.ClassFile.FieldType.boolean), 1, 5, [(2, 5, 0, 0), (0, 0, 8, 8)], [(some (0, 0, 0, 0), []), (some (0, 0, 1, 1), [])], [(5, 4, 0), (7, 3, 0), (7, 5, 0), (7, 2, 0), (7, 4, 0), (35, 1001, 0), (8, 7, 0)], (10, 246, 0, 0))
theorem zq_63 {l : Launch} {w : zk_W} (hW : zh_W w) : zh_K l w zK_63 := zh_meth hW (lk := [(2, 24, 5, 0, 18), (2, 32, 5, 4, 0), (2, 50, 7, 2, 0), (2, 28, 5, 3, 3), (9, 161, 201, 0, 0), (9, 163, 202, 0, 0), (2, 16, 5, 1, 18)]) (KS := [zK_54, zK_61, zK_57, zK_60, zK_39, zK_62]) (km := [64, 65, 46, 46, 43, 66]) (lc := [(0, 53, 64), (0, 60, 43), (0, 126, 61), (0, 102, 65), (0, 65, 46), (0, 123, 66)]) (CL0 := zc_X5_part) (ns := [(111, 1, []), (135, 2, [(3, 0, 1001)]), (150, 4, []), (198, 1, []), (215, 4, []), (239, 5, [])]) (AN := [(233, ([(0, 0, 0, 0), (1, 0, 0, 0), (2, 0, (-1), (-1)), (2, 5, 0, 0), (0, 0, 8, 8), (0, 0, 0, 1000), (0, 0, 1, 2), (0, 0, 0, 1), (0, 0, (-2147483647), 50), (2, 7, 0, 0)], [], [(3, 3, (7, 0)), (3, 4, (8, 0)), (3, 0, (9, 0))], [], [(3, (5, 0)), (2, (6, 0)), (0, (3, 0))], [(0, 3), (1, 4)], []), [], 0, 0, (0, [])),
  (198, ([(0, 0, 0, 0), (1, 0, 0, 0), (2, 0, (-1), (-1)), (2, 5, 0, 0), (0, 0, 8, 8), (0, 0, 0, 1), (0, 0, 5, 9), (2, 7, 0, 0), (0, 0, 1, 1), (0, 0, (-2147483647), 50)], [], [(3, 3, (8, 0)), (3, 4, (9, 0)), (3, 0, (7, 0))], [], [(4, (5, 0)), (2, (0, 2)), (0, (3, 0))], [(0, 3), (1, 4)], []), [(6, 0), (0, 0), (7, 0)], 0, 0, (1, []))]) (fuel := 566) (pl := 806) (by decide +kernel) (by decide +kernel) zd_X5_part (by
  intro K h
  rcases List.mem_cons.mp h with rfl | h
  · exact zq_54 hW
  rcases List.mem_cons.mp h with rfl | h
  · exact zq_61 hW
  rcases List.mem_cons.mp h with rfl | h
  · exact zq_57 hW
  rcases List.mem_cons.mp h with rfl | h
  · exact zq_60 hW
  rcases List.mem_cons.mp h with rfl | h
  · exact zq_39 hW
  rw [List.mem_singleton.mp h]
  exact zq_62 hW)
/-- X5_timesOrBy -/
def zK_64 : zk_K := (zt_mn 67, prog_7_method_15_code, 1, (Option.some Jvm.ClassFile.FieldType.int), 1, 5, [(2, 5, 0, 0)], [(some (0, 0, (-1), (-1)), []), (some (0, 0, 8, 10), [])], [], (1, 21, 0, 0))
theorem zq_64 {l : Launch} {w : zk_W} (hW : zh_W w) : zh_K l w zK_64 := zh_meth hW (lk := [(2, 24, 5, 0, 18)]) (KS := [zK_54]) (km := [64]) (lc := [(0, 53, 64)]) (CL0 := zc_X5_timesOrBy) (ns := []) (AN := []) (fuel := 142) (pl := 826) (by decide +kernel) (by decide +kernel) zd_X5_timesOrBy (by
  intro K h
  rw [List.mem_singleton.mp h]
  exact zq_54 hW)
/-- X5_term -/
def zK_65 : zk_K := (zt_mn 62, prog_7_method_14_code, 4, (Option.some Jvm.ClassFile.FieldType.boolean), 1, 5, [(2, 5, 0, 0), (0, 0, 8, 8)], [(some (0, 0, 0, 0), []), (some (0, 0, 1, 1), [])], [(5, 4, 0), (7, 3, 0), (7, 5, 0), (7, 2, 0), (7, 4, 0), (35, 1001, 0), (8, 7, 0)], (11, 271, 0, 0))
theorem zq_65 {l : Launch} {w : zk_W} (hW : zh_W w) : zh_K l w zK_65 := zh_meth hW (lk := [(2, 24, 5, 0, 18), (2, 16, 5, 1, 18)]) (KS := [zK_63, zK_64, zK_39, zK_62]) (km := [63, 67, 43, 66]) (lc := [(0, 155, 63), (0, 158, 67), (0, 60, 43), (0, 123, 66)]) (CL0 := zc_X5_term) (ns := [(11, 1, []), (33, 2, []), (52, 3, []), (57, 1, [])]) (AN := [(17, ([(0, 0, 0, 0), (1, 0, 0, 0), (2, 0, (-1), (-1)), (2, 5, 0, 0), (0, 0, 8, 8), (0, 0, 0, 400), (0, 0, (-1), 10)], [], [], [], [(3, (5, 0)), (2, (6, 0)), (0, (3, 0)), (1, (4, 0))], [(0, 3), (1, 4)], []), [], 0, 0, (400, [((-1), 5)]))]) (fuel := 206) (pl := 802) (by decide +kernel) (by decide +kernel) zd_X5_term (by
  intro K h
  rcases List.mem_cons.mp h with rfl | h
  · exact zq_63 hW
  rcases List.mem_cons.mp h with rfl | h
  · exact zq_64 hW
  rcases List.mem_cons.mp h with rfl | h
  · exact zq_39 hW
  rw [List.mem_singleton.mp h]
  exact zq_62 hW)
/-- X5_sum -/
def zK_66 : zk_K := (zt_mn 61, prog_7_method_13_code, 4, (Option.some Jvm.ClassFile.FieldType.boolean), 1, 5, [(2, 5, 0, 0), (0, 0, 8, 8)], [(some (0, 0, 0, 0), []), (some (0, 0, 1, 1), [])], [(5, 4, 0), (7, 3, 0), (7, 5, 0), (7, 2, 0), (7, 4, 0), (35, 1001, 0), (8, 7, 0)], (12, 294, 0, 0))
theorem zq_66 {l : Launch} {w : zk_W} (hW : zh_W w) : zh_K l w zK_66 := zh_meth hW (lk := [(2, 24, 5, 0, 18), (2, 16, 5, 1, 18)]) (KS := [zK_65, zK_54, zK_39, zK_62]) (km := [62, 64, 43, 66]) (lc := [(0, 152, 62), (0, 53, 64), (0, 60, 43), (0, 123, 66)]) (CL0 := zc_X5_sum) (ns := [(25, 1, []), (37, 1, []), (49, 1, []), (67, 2, []), (86, 3, [])]) (AN := [(12, ([(0, 0, 0, 0), (1, 0, 0, 0), (2, 0, (-1), (-1)), (2, 5, 0, 0), (0, 0, 8, 8), (0, 0, 0, 400)], [], [], [], [(2, (5, 0)), (0, (3, 0)), (1, (4, 0))], [(0, 3), (1, 4)], []), [], 0, 0, (400, [((-1), 5)]))]) (fuel := 246) (pl := 798) (by decide +kernel) (by decide +kernel) zd_X5_sum (by
  intro K h
  rcases List.mem_cons.mp h with rfl | h
  · exact zq_65 hW
  rcases List.mem_cons.mp h with rfl | h
  · exact zq_54 hW
  rcases List.mem_cons.mp h with rfl | h
  · exact zq_39 hW
  rw [List.mem_singleton.mp h]
  exact zq_62 hW)
/-- X5_part -/
def zK_67 : zk_K := (zt_mn 63, prog_7_method_16_code, 6, (Option.some Jvm.ClassFile.FieldType.boolean), 1, 5, [(2, 5, 0, 0), (0, 0, 7, 7)], [(some (0, 0, 0, 0), []), (some (0, 0, 1, 1), [])], [(5, 4, 0), (7, 3, 0), (7, 5, 0), (7, 2, 0), (7, 4, 0), (35, 1001, 0), (8, 7, 0)], (13, 317, 0, 0))
theorem zq_67 {l : Launch} {w : zk_W} (hW : zh_W w) : zh_K l w zK_67 := zh_meth hW (lk := [(2, 24, 5, 0, 18), (2, 32, 5, 4, 0), (2, 50, 7, 2, 0), (2, 28, 5, 3, 3), (9, 161, 201, 0, 0), (9, 163, 202, 0, 0), (2, 16, 5, 1, 18)]) (KS := [zK_54, zK_39, zK_66, zK_61, zK_57, zK_60, zK_62]) (km := [64, 43, 61, 65, 46, 46, 66]) (lc := [(0, 53, 64), (0, 60, 43), (0, 126, 61), (0, 102, 65), (0, 65, 46), (0, 123, 66)]) (CL0 := zc_X5_part) (ns := [(24, 1, []), (31, 2, []), (55, 1, []), (111, 3, []), (135, 4, [(5, 0, 1001)]), (150, 1, []), (198, 3, []), (215, 1, []), (239, 6, [])]) (AN := [(233, ([(0, 0, 0, 0), (1, 0, 0, 0), (2, 0, (-1), (-1)), (2, 5, 0, 0), (0, 0, 7, 7), (0, 0, 0, 1000), (0, 0, 1, 2), (0, 0, 0, 1), (0, 0, (-2147483647), 50), (2, 7, 0, 0)], [], [(3, 3, (7, 0)), (3, 4, (8, 0)), (3, 0, (9, 0))], [], [(3, (5, 0)), (2, (6, 0)), (0, (3, 0))], [(0, 3), (1, 4)], []), [], 0, 0, (0, [])),
  (198, ([(0, 0, 0, 0), (1, 0, 0, 0), (2, 0, (-1), (-1)), (2, 5, 0, 0), (0, 0, 7, 7), (0, 0, 0, 1), (0, 0, 5, 9), (2, 7, 0, 0), (0, 0, 1, 1), (0, 0, (-2147483647), 50)], [], [(3, 3, (8, 0)), (3, 4, (9, 0)), (3, 0, (7, 0))], [], [(4, (5, 0)), (2, (0, 2)), (0, (3, 0))], [(0, 3), (1, 4)], []), [(6, 0), (0, 0), (7, 0)], 0, 0, (1, []))]) (fuel := 566) (pl := 806) (by decide +kernel) (by decide +kernel) zd_X5_part (by
  intro K h
  rcases List.mem_cons.mp h with rfl | h
  · exact zq_54 hW
  rcases List.mem_cons.mp h with rfl | h
  · exact zq_39 hW
  rcases List.mem_cons.mp h with rfl | h
  · exact zq_66 hW
  rcases List.mem_cons.mp h with rfl | h
  · exact zq_61 hW
  rcases List.mem_cons.mp h with rfl | h
  · exact zq_57 hW
  rcases List.mem_cons.mp h with rfl | h
  · exact zq_60 hW
  rw [List.mem_singleton.mp h]
  exact zq_62 hW)
/-- X5_term -/
def zK_68 : zk_K := (zt_mn 62, prog_7_method_14_code, 4, (Option.some Jvm.ClassFile.FieldType.boolean), 1, 5, [(2, 5, 0, 0), (0, 0, 7, 7)], [(some (0, 0, 0, 0), []), (some (0, 0, 1, 1), [])], [(5, 4, 0), (7, 3, 0), (7, 5, 0), (7, 2, 0), (7, 4, 0), (35, 1001, 0), (8, 7, 0)], (14, 342, 0, 0))
theorem zq_68 {l : Launch} {w : zk_W} (hW : zh_W w) : zh_K l w zK_68 := zh_meth hW (lk := [(2, 24, 5, 0, 18), (2, 16, 5, 1, 18)]) (KS := [zK_67, zK_64, zK_39, zK_62]) (km := [63, 67, 43, 66]) (lc := [(0, 155, 63), (0, 158, 67), (0, 60, 43), (0, 123, 66)]) (CL0 := zc_X5_term) (ns := [(11, 1, []), (33, 2, []), (52, 3, []), (57, 1, [])]) (AN := [(17, ([(0, 0, 0, 0), (1, 0, 0, 0), (2, 0, (-1), (-1)), (2, 5, 0, 0), (0, 0, 7, 7), (0, 0, 0, 400), (0, 0, (-1), 10)], [], [], [], [(3, (5, 0)), (2, (6, 0)), (0, (3, 0)), (1, (4, 0))], [(0, 3), (1, 4)], []), [], 0, 0, (400, [((-1), 5)]))]) (fuel := 206) (pl := 802) (by decide +kernel) (by decide +kernel) zd_X5_term (by
  intro K h
  rcases List.mem_cons.mp h with rfl | h
  · exact zq_67 hW
  rcases List.mem_cons.mp h with rfl | h
  · exact zq_64 hW
  rcases List.mem_cons.mp h with rfl | h
  · exact zq_39 hW
  rw [List.mem_singleton.mp h]
  exact zq_62 hW)
/-- X5_sum -/
def zK_69 : zk_K := (zt_mn 61, prog_7_method_13_code, 4, (Option.some Jvm.ClassFile.FieldType.boolean), 1, 5, [(2, 5, 0, 0), (0, 0, 7, 7)], [(some (0, 0, 0, 0), []), (some (0, 0, 1, 1), [])], [(5, 4, 0), (7, 3, 0), (7, 5, 0), (7, 2, 0), (7, 4, 0), (35, 1001, 0), (8, 7, 0)], (15, 365, 0, 0))
theorem zq_69 {l : Launch} {w : zk_W} (hW : zh_W w) : zh_K l w zK_69 := zh_meth hW (lk := [(2, 24, 5, 0, 18), (2, 16, 5, 1, 18)]) (KS := [zK_68, zK_54, zK_39, zK_62]) (km := [62, 64, 43, 66]) (lc := [(0, 152, 62), (0, 53, 64), (0, 60, 43), (0, 123, 66)]) (CL0 := zc_X5_sum) (ns := [(25, 1, []), (37, 1, []), (49, 1, []), (67, 2, []), (86, 3, [])]) (AN := [(12, ([(0, 0, 0, 0), (1, 0, 0, 0), (2, 0, (-1), (-1)), (2, 5, 0, 0), (0, 0, 7, 7), (0, 0, 0, 400)], [], [], [], [(2, (5, 0)), (0, (3, 0)), (1, (4, 0))], [(0, 3), (1, 4)], []), [], 0, 0, (400, [((-1), 5)]))]) (fuel := 246) (pl := 798) (by decide +kernel) (by decide +kernel) zd_X5_sum (by
  intro K h
  rcases List.mem_cons.mp h with rfl | h
  · exact zq_68 hW
  rcases List.mem_cons.mp h with rfl | h
  · exact zq_54 hW
  rcases List.mem_cons.mp h with rfl | h
  · exact zq_39 hW
  rw [List.mem_singleton.mp h]
  exact zq_62 hW)
