/-! part 41: contracts of the reference, by the checker -/
/-- X12_putBack -/
def zK_1001 : zk_K := (zt_mn 184, prog_14_method_11_code, 3, (Option.none : Option Jvm.ClassFile.FieldType), 1, 12, [(2, 13, 0, 0), (0, 0, 0, 17)], [(none, [])], [(59, 4318, 0)], (0, 0, 0, 0))
theorem zq_1001 {l : Launch} {w : zk_W} (hW : zh_W w) : zh_K l w zK_1001 := zh_meth hW (lk := [(2, 13, 12, 3, 18), (2, 23, 12, 6, 18)]) (KS := []) (km := []) (lc := []) (CL0 := zc_X12_putBack) (ns := [(22, 0, [(0, 0, 18)]), (25, 8, [])]) (AN := [(2, ([(0, 0, 0, 0), (1, 0, 0, 0), (2, 0, (-1), (-1)), (2, 13, 0, 0), (0, 0, 0, 17), (0, 0, 0, 34)], [], [], [], [(2, (5, 0)), (0, (3, 0)), (1, (4, 0))], [(0, 3), (1, 4)], []), [], 0, 0, (34, [((-1), 5)]))]) (fuel := 138) (pl := 1565) (by decide +kernel) (by decide +kernel) zd_X12_putBack (fun K h => nomatch h)
/-- X12_tell -/
def zK_1002 : zk_K := (zt_mn 183, prog_14_method_7_code, 2, (Option.some Jvm.ClassFile.FieldType.int), 1, 12, [(2, 13, 0, 0), (0, 0, (-6), 2147483647)], [(some (0, 0, (-6), 2147483647), [(1, 2, 0), (2, 1, 0)])], [(13, 1, 0), (58, 1002, 0)], (0, 0, 0, 0))
theorem zq_1002 {l : Launch} {w : zk_W} (hW : zh_W w) : zh_K l w zK_1002 := zh_meth hW (lk := [(2, 164, 12, 1, 0), (2, 7, 12, 2, 18)]) (KS := []) (km := []) (lc := []) (CL0 := zc_X12_tell) (ns := []) (AN := []) (fuel := 130) (pl := 1561) (by decide +kernel) (by decide +kernel) zd_X12_tell (fun K h => nomatch h)
/-- X12_undo -/
def zK_1003 : zk_K := (zt_mn 182, prog_14_method_13_code, 1, (Option.some Jvm.ClassFile.FieldType.int), 1, 12, [(2, 13, 0, 0)], [(some (0, 0, (-3), 3), [])], [(13, 0, 0), (13, 8, 0), (59, 4318, 0), (13, 1, 0), (58, 1002, 0)], (1, 22, 0, 0))
theorem zq_1003 {l : Launch} {w : zk_W} (hW : zh_W w) : zh_K l w zK_1003 := zh_meth hW (lk := [(2, 161, 12, 0, 0), (2, 167, 12, 8, 0), (2, 26, 12, 7, 18)]) (KS := [zK_1002, zK_1001]) (km := [183, 184]) (lc := [(0, 170, 183), (0, 178, 184)]) (CL0 := zc_X12_undo) (ns := [(34, 1, [])]) (AN := []) (fuel := 162) (pl := 1557) (by decide +kernel) (by decide +kernel) zd_X12_undo (by
  intro K h
  rcases List.mem_cons.mp h with rfl | h
  · exact zq_1002 hW
  rw [List.mem_singleton.mp h]
  exact zq_1001 hW)
/-- X12_in -/
def zK_1004 : zk_K := (zt_mn 186, prog_14_method_3_code, 6, (Option.some Jvm.ClassFile.FieldType.boolean), 0, 12, [(1, 0, (-9223372036854775808), 9223372036854775807), (1, 0, 0, 0), (1, 0, 7, 7)], [(some (0, 0, 0, 0), []), (some (0, 0, 1, 1), [(0, 1, 7), (0, 2, 0), (0, 3, 6), (0, 99, 7), (1, 0, 0), (2, 0, 7), (3, 0, 1), (99, 0, 0)])], [], (0, 0, 0, 0))
theorem zq_1004 {l : Launch} {w : zk_W} (hW : zh_W w) : zh_K l w zK_1004 := zh_meth hW (lk := []) (KS := []) (km := []) (lc := []) (CL0 := zc_X12_in) (ns := []) (AN := []) (fuel := 98) (pl := 1572) (by decide +kernel) (by decide +kernel) zd_X12_in (fun K h => nomatch h)
/-- X12_in -/
def zK_1008 : zk_K := (zt_mn 186, prog_14_method_3_code, 6, (Option.some Jvm.ClassFile.FieldType.boolean), 0, 12, [(1, 0, (-9223372036854775808), 9223372036854775807), (1, 0, 0, 0), (1, 0, 9, 9)], [(some (0, 0, 0, 0), []), (some (0, 0, 1, 1), [(0, 1, 9), (0, 2, 0), (0, 3, 8), (0, 99, 9), (1, 0, 0), (2, 0, 9), (3, 0, 1), (99, 0, 0)])], [], (0, 0, 0, 0))
theorem zq_1008 {l : Launch} {w : zk_W} (hW : zh_W w) : zh_K l w zK_1008 := zh_meth hW (lk := []) (KS := []) (km := []) (lc := []) (CL0 := zc_X12_in) (ns := []) (AN := []) (fuel := 98) (pl := 1572) (by decide +kernel) (by decide +kernel) zd_X12_in (fun K h => nomatch h)
/-- X12_settled -/
def zK_1009 : zk_K := (zt_mn 188, prog_14_method_9_code, 2, (Option.some Jvm.ClassFile.FieldType.int), 1, 12, [(2, 13, 0, 0), (0, 0, (-6), 2147483647)], [(some (0, 0, (-6), 2147483647), [(1, 2, 0), (2, 1, 0)])], [(13, 8, 0), (13, 1, 0), (58, 1002, 0)], (1, 21, 0, 0))
theorem zq_1009 {l : Launch} {w : zk_W} (hW : zh_W w) : zh_K l w zK_1009 := zh_meth hW (lk := [(2, 167, 12, 8, 0)]) (KS := [zK_1002]) (km := [183]) (lc := [(0, 170, 183)]) (CL0 := zc_X12_settled) (ns := []) (AN := []) (fuel := 98) (pl := 1580) (by decide +kernel) (by decide +kernel) zd_X12_settled (by
  intro K h
  rw [List.mem_singleton.mp h]
  exact zq_1002 hW)
/-- X12_person -/
def zK_1010 : zk_K := (zt_mn 191, prog_14_method_23_code, 4, (Option.some Jvm.ClassFile.FieldType.int), 1, 12, [(2, 13, 0, 0), (0, 0, (-2147483648), 2147483647), (0, 0, (-2147483648), 2147483647)], [(some (0, 0, (-1), (-1)), []), (some (0, 0, (-5), 5), [(1, 2, 9), (1, 3, 14), (1, 99, 9), (2, 1, 7), (2, 3, 12), (2, 99, 7), (3, 1, 5), (3, 2, 5), (99, 1, 0), (99, 2, 0)])], [(13, 0, 0), (13, 1, 0), (58, 1002, 0), (59, 3000, 0), (59, 5844, 0), (13, 8, 0)], (2, 42, 0, 0))
theorem zq_1010 {l : Launch} {w : zk_W} (hW : zh_W w) : zh_K l w zK_1010 := zh_meth hW (lk := [(2, 161, 12, 0, 0), (1, 199, 0, 0, 9), (1, 192, 0, 0, 7), (2, 13, 12, 3, 18)]) (KS := [zK_1008, zK_1004, zK_1002, zK_1009]) (km := [186, 186, 183, 188]) (lc := [(1, 181, 186), (0, 170, 183), (0, 185, 188)]) (CL0 := zc_X12_person) (ns := [(14, 0, [(0, 0, 0)]), (23, 1, []), (26, 0, [(0, 0, 0)]), (31, 2, []), (40, 7, []), (43, 0, [(0, 0, 7)]), (51, 2, []), (101, 7, []), (104, 7, []), (107, 3, [])]) (AN := []) (fuel := 346) (pl := 1594) (by decide +kernel) (by decide +kernel) zd_X12_person (by
  intro K h
  rcases List.mem_cons.mp h with rfl | h
  · exact zq_1008 hW
  rcases List.mem_cons.mp h with rfl | h
  · exact zq_1004 hW
  rcases List.mem_cons.mp h with rfl | h
  · exact zq_1002 hW
  rw [List.mem_singleton.mp h]
  exact zq_1009 hW)
/-- X12_in -/
def zK_1011 : zk_K := (zt_mn 186, prog_14_method_3_code, 6, (Option.some Jvm.ClassFile.FieldType.boolean), 0, 12, [(1, 0, (-9223372036854775808), 9223372036854775807), (1, 0, 0, 0), (1, 0, (-1), 5)], [(some (0, 0, 0, 0), []), (some (0, 0, 1, 1), [(0, 1, 5), (0, 2, 0), (0, 3, 4), (0, 99, 5), (1, 0, 0), (1, 2, 0), (2, 0, 5), (3, 0, 1), (3, 2, 1), (99, 0, 0), (99, 2, 0)])], [], (0, 0, 0, 0))
theorem zq_1011 {l : Launch} {w : zk_W} (hW : zh_W w) : zh_K l w zK_1011 := zh_meth hW (lk := []) (KS := []) (km := []) (lc := []) (CL0 := zc_X12_in) (ns := []) (AN := []) (fuel := 98) (pl := 1572) (by decide +kernel) (by decide +kernel) zd_X12_in (fun K h => nomatch h)
/-- X12_isPerson -/
def zK_1012 : zk_K := (zt_mn 193, prog_14_method_19_code, 2, (Option.some Jvm.ClassFile.FieldType.boolean), 1, 12, [(2, 13, 0, 0), (0, 0, (-2147483648), 2147483647)], [(some (0, 0, 0, 0), []), (some (0, 0, 1, 1), [(1, 2, 4), (1, 99, 5), (2, 1, 1), (99, 1, 0)])], [], (1, 25, 0, 0))
theorem zq_1012 {l : Launch} {w : zk_W} (hW : zh_W w) : zh_K l w zK_1012 := zh_meth hW (lk := [(2, 13, 12, 3, 18)]) (KS := [zK_1011]) (km := [186]) (lc := [(1, 181, 186)]) (CL0 := zc_X12_isPerson) (ns := [(15, 0, [(0, 0, 0)])]) (AN := []) (fuel := 98) (pl := 1603) (by decide +kernel) (by decide +kernel) zd_X12_isPerson (by
  intro K h
  rw [List.mem_singleton.mp h]
  exact zq_1011 hW)
/-- X12_change -/
def zK_1013 : zk_K := (zt_mn 190, prog_14_method_8_code, 4, (Option.some Jvm.ClassFile.FieldType.int), 1, 12, [(2, 13, 0, 0), (0, 0, 26, 26), (0, 0, 0, 9)], [(some (0, 0, (-2147483648), 2147483647), [])], [(59, 9682, 0), (13, 1, 0)], (0, 0, 0, 0))
theorem zq_1013 {l : Launch} {w : zk_W} (hW : zh_W w) : zh_K l w zK_1013 := zh_meth hW (lk := [(2, 13, 12, 3, 18), (2, 164, 12, 1, 0)]) (KS := []) (km := []) (lc := []) (CL0 := zc_X12_change) (ns := []) (AN := []) (fuel := 110) (pl := 1590) (by decide +kernel) (by decide +kernel) zd_X12_change (fun K h => nomatch h)
/-- X12_change -/
def zK_1014 : zk_K := (zt_mn 190, prog_14_method_8_code, 4, (Option.some Jvm.ClassFile.FieldType.int), 1, 12, [(2, 13, 0, 0), (0, 0, 23, 23), (0, 0, 0, 9)], [(some (0, 0, (-2147483648), 2147483647), [])], [(59, 8911, 0), (13, 1, 0)], (0, 0, 0, 0))
theorem zq_1014 {l : Launch} {w : zk_W} (hW : zh_W w) : zh_K l w zK_1014 := zh_meth hW (lk := [(2, 13, 12, 3, 18), (2, 164, 12, 1, 0)]) (KS := []) (km := []) (lc := []) (CL0 := zc_X12_change) (ns := []) (AN := []) (fuel := 110) (pl := 1590) (by decide +kernel) (by decide +kernel) zd_X12_change (fun K h => nomatch h)
/-- X12_change -/
def zK_1015 : zk_K := (zt_mn 190, prog_14_method_8_code, 4, (Option.some Jvm.ClassFile.FieldType.int), 1, 12, [(2, 13, 0, 0), (0, 0, 20, 20), (0, 0, 0, 9)], [(some (0, 0, (-2147483648), 2147483647), [])], [(59, 8140, 0), (13, 1, 0)], (0, 0, 0, 0))
theorem zq_1015 {l : Launch} {w : zk_W} (hW : zh_W w) : zh_K l w zK_1015 := zh_meth hW (lk := [(2, 13, 12, 3, 18), (2, 164, 12, 1, 0)]) (KS := []) (km := []) (lc := []) (CL0 := zc_X12_change) (ns := []) (AN := []) (fuel := 110) (pl := 1590) (by decide +kernel) (by decide +kernel) zd_X12_change (fun K h => nomatch h)
/-- X12_change -/
def zK_1016 : zk_K := (zt_mn 190, prog_14_method_8_code, 4, (Option.some Jvm.ClassFile.FieldType.int), 1, 12, [(2, 13, 0, 0), (0, 0, 17, 17), (0, 0, 0, 9)], [(some (0, 0, (-2147483648), 2147483647), [])], [(59, 7369, 0), (13, 1, 0)], (0, 0, 0, 0))
theorem zq_1016 {l : Launch} {w : zk_W} (hW : zh_W w) : zh_K l w zK_1016 := zh_meth hW (lk := [(2, 13, 12, 3, 18), (2, 164, 12, 1, 0)]) (KS := []) (km := []) (lc := []) (CL0 := zc_X12_change) (ns := []) (AN := []) (fuel := 110) (pl := 1590) (by decide +kernel) (by decide +kernel) zd_X12_change (fun K h => nomatch h)
/-- X12_change -/
def zK_1017 : zk_K := (zt_mn 190, prog_14_method_8_code, 4, (Option.some Jvm.ClassFile.FieldType.int), 1, 12, [(2, 13, 0, 0), (0, 0, 14, 14), (0, 0, 0, 9)], [(some (0, 0, (-2147483648), 2147483647), [])], [(59, 6598, 0), (13, 1, 0)], (0, 0, 0, 0))
theorem zq_1017 {l : Launch} {w : zk_W} (hW : zh_W w) : zh_K l w zK_1017 := zh_meth hW (lk := [(2, 13, 12, 3, 18), (2, 164, 12, 1, 0)]) (KS := []) (km := []) (lc := []) (CL0 := zc_X12_change) (ns := []) (AN := []) (fuel := 110) (pl := 1590) (by decide +kernel) (by decide +kernel) zd_X12_change (fun K h => nomatch h)
/-- X12_change -/
def zK_1018 : zk_K := (zt_mn 190, prog_14_method_8_code, 4, (Option.some Jvm.ClassFile.FieldType.int), 1, 12, [(2, 13, 0, 0), (0, 0, 11, 11), (0, 0, 0, 9)], [(some (0, 0, (-2147483648), 2147483647), [])], [(59, 5827, 0), (13, 1, 0)], (0, 0, 0, 0))
theorem zq_1018 {l : Launch} {w : zk_W} (hW : zh_W w) : zh_K l w zK_1018 := zh_meth hW (lk := [(2, 13, 12, 3, 18), (2, 164, 12, 1, 0)]) (KS := []) (km := []) (lc := []) (CL0 := zc_X12_change) (ns := []) (AN := []) (fuel := 110) (pl := 1590) (by decide +kernel) (by decide +kernel) zd_X12_change (fun K h => nomatch h)
/-- X12_oil -/
def zK_1019 : zk_K := (zt_mn 192, prog_14_method_24_code, 3, (Option.some Jvm.ClassFile.FieldType.int), 1, 12, [(2, 13, 0, 0), (0, 0, (-2147483648), 2147483647), (0, 0, (-2147483648), 2147483647)], [(some (0, 0, (-1), (-1)), []), (some (0, 0, (-2147483648), 2147483647), [(1, 2, 2147483647), (1, 3, 2147483653), (2, 1, 2147483657), (2, 3, 2147483657), (2, 99, 9), (3, 1, 2147483647), (3, 2, 2147483647), (99, 2, 0)])], [(13, 0, 0), (13, 1, 0), (58, 1002, 0), (13, 8, 0), (59, 5827, 0), (59, 6598, 0), (59, 7369, 0), (59, 8140, 0), (59, 8911, 0), (59, 9682, 0)], (2, 46, 0, 0))
theorem zq_1019 {l : Launch} {w : zk_W} (hW : zh_W w) : zh_K l w zK_1019 := zh_meth hW (lk := [(2, 161, 12, 0, 0), (1, 199, 0, 0, 9), (2, 167, 12, 8, 0)]) (KS := [zK_1008, zK_1002, zK_1012, zK_1013, zK_1014, zK_1015, zK_1016, zK_1017, zK_1018]) (km := [186, 183, 193, 190, 190, 190, 190, 190, 190]) (lc := [(1, 181, 186), (0, 170, 183), (0, 201, 193), (0, 196, 190)]) (CL0 := zc_X12_oil) (ns := [(14, 0, [(0, 0, 0)]), (19, 1, []), (25, 2, []), (28, 0, [(0, 0, 0)]), (34, 1, []), (48, 0, [(0, 0, 6)]), (53, 3, [(4, 0, 1001), (5, 0, 1001), (6, 0, 1001), (7, 0, 1001), (8, 0, 1001)])]) (AN := []) (fuel := 190) (pl := 1599) (by decide +kernel) (by decide +kernel) zd_X12_oil (by
  intro K h
  rcases List.mem_cons.mp h with rfl | h
  · exact zq_1008 hW
  rcases List.mem_cons.mp h with rfl | h
  · exact zq_1002 hW
  rcases List.mem_cons.mp h with rfl | h
  · exact zq_1012 hW
  rcases List.mem_cons.mp h with rfl | h
  · exact zq_1013 hW
  rcases List.mem_cons.mp h with rfl | h
  · exact zq_1014 hW
  rcases List.mem_cons.mp h with rfl | h
  · exact zq_1015 hW
  rcases List.mem_cons.mp h with rfl | h
  · exact zq_1016 hW
  rcases List.mem_cons.mp h with rfl | h
  · exact zq_1017 hW
  rw [List.mem_singleton.mp h]
  exact zq_1018 hW)
/-- X12_in -/
def zK_1020 : zk_K := (zt_mn 186, prog_14_method_3_code, 6, (Option.some Jvm.ClassFile.FieldType.boolean), 0, 12, [(1, 0, (-9223372036854775808), 9223372036854775807), (1, 0, 0, 0), (1, 0, 3, 3)], [(some (0, 0, 0, 0), []), (some (0, 0, 1, 1), [(0, 1, 3), (0, 2, 0), (0, 3, 2), (0, 99, 3), (1, 0, 0), (2, 0, 3), (3, 0, 1), (99, 0, 0)])], [], (0, 0, 0, 0))
theorem zq_1020 {l : Launch} {w : zk_W} (hW : zh_W w) : zh_K l w zK_1020 := zh_meth hW (lk := []) (KS := []) (km := []) (lc := []) (CL0 := zc_X12_in) (ns := []) (AN := []) (fuel := 98) (pl := 1572) (by decide +kernel) (by decide +kernel) zd_X12_in (fun K h => nomatch h)
/-- X12_ofPerson -/
def zK_1021 : zk_K := (zt_mn 195, prog_14_method_17_code, 3, (Option.some Jvm.ClassFile.FieldType.int), 1, 12, [(2, 13, 0, 0), (0, 0, 0, 5), (0, 0, 0, 2)], [(some (0, 0, (-2147483648), 2147483647), [])], [], (0, 0, 0, 0))
theorem zq_1021 {l : Launch} {w : zk_W} (hW : zh_W w) : zh_K l w zK_1021 := zh_meth hW (lk := [(2, 13, 12, 3, 18)]) (KS := []) (km := []) (lc := []) (CL0 := zc_X12_ofPerson) (ns := [(8, 0, [(0, 0, 6)])]) (AN := []) (fuel := 94) (pl := 1612) (by decide +kernel) (by decide +kernel) zd_X12_ofPerson (fun K h => nomatch h)
/-- X12_ofWork -/
def zK_1022 : zk_K := (zt_mn 196, prog_14_method_18_code, 3, (Option.some Jvm.ClassFile.FieldType.int), 1, 12, [(2, 13, 0, 0), (0, 0, 0, 9), (0, 0, 0, 0)], [(some (0, 0, 0, 5), [])], [], (0, 0, 0, 0))
theorem zq_1022 {l : Launch} {w : zk_W} (hW : zh_W w) : zh_K l w zK_1022 := zh_meth hW (lk := [(2, 13, 12, 3, 18)]) (KS := []) (km := []) (lc := []) (CL0 := zc_X12_ofWork) (ns := [(8, 0, [(0, 0, 10)])]) (AN := []) (fuel := 94) (pl := 1616) (by decide +kernel) (by decide +kernel) zd_X12_ofWork (fun K h => nomatch h)
/-- X12_ofWork -/
def zK_1023 : zk_K := (zt_mn 196, prog_14_method_18_code, 3, (Option.some Jvm.ClassFile.FieldType.int), 1, 12, [(2, 13, 0, 0), (0, 0, 0, 9), (0, 0, 1, 1)], [(some (0, 0, (-2147483648), 2147483647), [])], [], (0, 0, 0, 0))
theorem zq_1023 {l : Launch} {w : zk_W} (hW : zh_W w) : zh_K l w zK_1023 := zh_meth hW (lk := [(2, 13, 12, 3, 18)]) (KS := []) (km := []) (lc := []) (CL0 := zc_X12_ofWork) (ns := [(8, 0, [(0, 0, 10)])]) (AN := []) (fuel := 94) (pl := 1616) (by decide +kernel) (by decide +kernel) zd_X12_ofWork (fun K h => nomatch h)
/-- X12_isOver -/
def zK_1024 : zk_K := (zt_mn 197, prog_14_method_21_code, 2, (Option.some Jvm.ClassFile.FieldType.boolean), 1, 12, [(2, 13, 0, 0), (0, 0, 0, 9)], [(some (0, 0, 0, 0), []), (some (0, 0, 1, 1), [])], [], (1, 22, 0, 0))
theorem zq_1024 {l : Launch} {w : zk_W} (hW : zh_W w) : zh_K l w zK_1024 := zh_meth hW (lk := [(2, 13, 12, 3, 18)]) (KS := [zK_1023]) (km := [196]) (lc := [(0, 188, 196)]) (CL0 := zc_X12_isOver) (ns := []) (AN := []) (fuel := 110) (pl := 1620) (by decide +kernel) (by decide +kernel) zd_X12_isOver (by
  intro K h
  rw [List.mem_singleton.mp h]
  exact zq_1023 hW)
/-- X12_of -/
def zK_1025 : zk_K := (zt_mn 194, prog_14_method_25_code, 5, (Option.some Jvm.ClassFile.FieldType.int), 1, 12, [(2, 13, 0, 0), (0, 0, (-2147483648), 2147483647), (0, 0, (-2147483648), 2147483647)], [(some (0, 0, (-1), (-1)), []), (some (0, 0, (-2147483648), 2147483647), [(1, 2, 5), (1, 3, 2147483653), (1, 99, 5), (2, 1, 3), (2, 3, 2147483650), (2, 99, 3), (3, 1, 2147483647), (3, 2, 2147483647), (99, 1, 0), (99, 2, 0)])], [(13, 0, 0)], (2, 46, 0, 0))
theorem zq_1025 {l : Launch} {w : zk_W} (hW : zh_W w) : zh_K l w zK_1025 := zh_meth hW (lk := [(2, 161, 12, 0, 0), (1, 205, 0, 0, 3), (2, 13, 12, 3, 18)]) (KS := [zK_1012, zK_1020, zK_1021, zK_1022, zK_1024]) (km := [193, 186, 195, 196, 197]) (lc := [(0, 201, 193), (1, 181, 186), (0, 207, 195), (0, 188, 196), (0, 210, 197)]) (CL0 := zc_X12_of) (ns := [(10, 0, [(0, 0, 0)]), (19, 1, []), (22, 0, [(0, 0, 0)]), (35, 2, []), (60, 3, []), (70, 4, []), (73, 0, [(0, 0, 0)])]) (AN := [(44, ([(0, 0, 0, 0), (1, 0, 0, 0), (2, 0, (-1), (-1)), (2, 13, 0, 0), (0, 0, 0, 5), (0, 0, 3, 3), (0, 0, 0, 12), (0, 0, 0, 12)], [(7, 6, 0)], [(3, 0, (0, 0))], [], [(4, (6, 0)), (3, (7, 0)), (0, (3, 0)), (1, (4, 0))], [(0, 3), (1, 4), (2, 5)], []), [], 0, 0, (12, [((-1), 6)]))]) (fuel := 262) (pl := 1607) (by decide +kernel) (by decide +kernel) zd_X12_of (by
  intro K h
  rcases List.mem_cons.mp h with rfl | h
  · exact zq_1012 hW
  rcases List.mem_cons.mp h with rfl | h
  · exact zq_1020 hW
  rcases List.mem_cons.mp h with rfl | h
  · exact zq_1021 hW
  rcases List.mem_cons.mp h with rfl | h
  · exact zq_1022 hW
  rw [List.mem_singleton.mp h]
  exact zq_1024 hW)
/-- X12_in -/
def zK_1026 : zk_K := (zt_mn 186, prog_14_method_3_code, 6, (Option.some Jvm.ClassFile.FieldType.boolean), 0, 12, [(1, 0, (-9223372036854775808), 9223372036854775807), (1, 0, 1, 1), (1, 0, 600, 600)], [(some (0, 0, 0, 0), []), (some (0, 0, 1, 1), [(0, 1, 599), (0, 2, 0), (0, 3, 599), (0, 99, 600), (1, 0, 0), (2, 0, 599), (3, 0, 0), (99, 0, (-1))])], [], (0, 0, 0, 0))
theorem zq_1026 {l : Launch} {w : zk_W} (hW : zh_W w) : zh_K l w zK_1026 := zh_meth hW (lk := []) (KS := []) (km := []) (lc := []) (CL0 := zc_X12_in) (ns := []) (AN := []) (fuel := 98) (pl := 1572) (by decide +kernel) (by decide +kernel) zd_X12_in (fun K h => nomatch h)
/-- X12_in -/
def zK_1027 : zk_K := (zt_mn 186, prog_14_method_3_code, 6, (Option.some Jvm.ClassFile.FieldType.boolean), 0, 12, [(1, 0, (-9223372036854775808), 9223372036854775807), (1, 0, 0, 0), (1, 0, 23, 23)], [(some (0, 0, 0, 0), []), (some (0, 0, 1, 1), [(0, 1, 23), (0, 2, 0), (0, 3, 22), (0, 99, 23), (1, 0, 0), (2, 0, 23), (3, 0, 1), (99, 0, 0)])], [], (0, 0, 0, 0))
theorem zq_1027 {l : Launch} {w : zk_W} (hW : zh_W w) : zh_K l w zK_1027 := zh_meth hW (lk := []) (KS := []) (km := []) (lc := []) (CL0 := zc_X12_in) (ns := []) (AN := []) (fuel := 98) (pl := 1572) (by decide +kernel) (by decide +kernel) zd_X12_in (fun K h => nomatch h)
/-- X12_in -/
def zK_1028 : zk_K := (zt_mn 186, prog_14_method_3_code, 6, (Option.some Jvm.ClassFile.FieldType.boolean), 0, 12, [(1, 0, (-9223372036854775808), 9223372036854775807), (1, 0, 1, 1), (1, 0, 99, 99)], [(some (0, 0, 0, 0), []), (some (0, 0, 1, 1), [(0, 1, 98), (0, 2, 0), (0, 3, 98), (0, 99, 99), (1, 0, 0), (2, 0, 98), (3, 0, 0), (99, 0, (-1))])], [], (0, 0, 0, 0))
theorem zq_1028 {l : Launch} {w : zk_W} (hW : zh_W w) : zh_K l w zK_1028 := zh_meth hW (lk := []) (KS := []) (km := []) (lc := []) (CL0 := zc_X12_in) (ns := []) (AN := []) (fuel := 98) (pl := 1572) (by decide +kernel) (by decide +kernel) zd_X12_in (fun K h => nomatch h)
/-- X12_in -/
def zK_1029 : zk_K := (zt_mn 186, prog_14_method_3_code, 6, (Option.some Jvm.ClassFile.FieldType.boolean), 0, 12, [(1, 0, (-9223372036854775808), 9223372036854775807), (1, 0, 0, 0), (1, 0, (-1), 9)], [(some (0, 0, 0, 0), []), (some (0, 0, 1, 1), [(0, 1, 9), (0, 2, 0), (0, 3, 8), (0, 99, 9), (1, 0, 0), (1, 2, 0), (2, 0, 9), (3, 0, 1), (3, 2, 1), (99, 0, 0), (99, 2, 0)])], [], (0, 0, 0, 0))
theorem zq_1029 {l : Launch} {w : zk_W} (hW : zh_W w) : zh_K l w zK_1029 := zh_meth hW (lk := []) (KS := []) (km := []) (lc := []) (CL0 := zc_X12_in) (ns := []) (AN := []) (fuel := 98) (pl := 1572) (by decide +kernel) (by decide +kernel) zd_X12_in (fun K h => nomatch h)
/-- X12_isWork -/
def zK_1030 : zk_K := (zt_mn 200, prog_14_method_20_code, 2, (Option.some Jvm.ClassFile.FieldType.boolean), 1, 12, [(2, 13, 0, 0), (0, 0, (-2147483648), 2147483647)], [(some (0, 0, 0, 0), []), (some (0, 0, 1, 1), [(1, 2, 8), (1, 99, 9), (2, 1, 1), (99, 1, 0)])], [], (1, 25, 0, 0))
theorem zq_1030 {l : Launch} {w : zk_W} (hW : zh_W w) : zh_K l w zK_1030 := zh_meth hW (lk := [(2, 13, 12, 3, 18)]) (KS := [zK_1029]) (km := [186]) (lc := [(1, 181, 186)]) (CL0 := zc_X12_isWork) (ns := [(15, 0, [(0, 0, 0)])]) (AN := []) (fuel := 98) (pl := 1634) (by decide +kernel) (by decide +kernel) zd_X12_isWork (by
  intro K h
  rw [List.mem_singleton.mp h]
  exact zq_1029 hW)
/-- X12_work1 -/
def zK_1031 : zk_K := (zt_mn 199, prog_14_method_26_code, 8, (Option.some Jvm.ClassFile.FieldType.int), 1, 12, [(2, 13, 0, 0), (0, 0, (-2147483648), 2147483647), (0, 0, (-2147483648), 2147483647), (0, 0, (-2147483648), 2147483647), (0, 0, (-2147483648), 2147483647), (0, 0, (-2147483648), 2147483647)], [(some (0, 0, (-1), (-1)), []), (some (0, 0, (-5), 9), [(1, 2, 2147483646), (1, 3, 2147483647), (1, 4, 2147483646), (1, 6, 2147483649), (2, 1, 2147484248), (2, 3, 600), (2, 4, 599), (2, 5, 2147484248), (2, 6, 605), (2, 99, 600), (3, 1, 2147483671), (3, 2, 22), (3, 4, 22), (3, 5, 2147483671), (3, 6, 28), (3, 99, 23), (4, 1, 2147483747), (4, 2, 98), (4, 3, 99), (4, 5, 2147483747), (4, 6, 104), (4, 99, 99), (5, 2, 2147483646), (5, 3, 2147483647), (5, 4, 2147483646), (5, 6, 2147483649), (6, 1, 2147483646), (6, 2, 8), (6, 3, 9), (6, 4, 8), (6, 5, 2147483646), (99, 2, (-1)), (99, 3, 0), (99, 4, (-1))])], [(59, 3257, 0), (59, 10512, 0)], (2, 46, 0, 0))
theorem zq_1031 {l : Launch} {w : zk_W} (hW : zh_W w) : zh_K l w zK_1031 := zh_meth hW (lk := [(1, 213, 0, 0, 600), (1, 215, 0, 0, 23), (1, 194, 0, 0, 99), (2, 13, 12, 3, 18)]) (KS := [zK_1026, zK_1027, zK_1028, zK_1012, zK_1030]) (km := [186, 186, 186, 193, 200]) (lc := [(1, 181, 186), (0, 201, 193), (0, 217, 200)]) (CL0 := zc_X12_work1) (ns := [(9, 0, [(0, 0, 0)]), (18, 1, []), (21, 0, [(0, 0, 0)]), (31, 2, []), (34, 0, [(0, 0, 0)]), (41, 3, []), (44, 0, [(0, 0, 0)]), (56, 4, []), (59, 0, [(0, 0, 0)]), (70, 7, []), (75, 0, [(0, 0, 11)]), (159, 7, []), (162, 7, [])]) (AN := []) (fuel := 1204) (pl := 1628) (by decide +kernel) (by decide +kernel) zd_X12_work1 (by
  intro K h
  rcases List.mem_cons.mp h with rfl | h
  · exact zq_1026 hW
  rcases List.mem_cons.mp h with rfl | h
  · exact zq_1027 hW
  rcases List.mem_cons.mp h with rfl | h
  · exact zq_1028 hW
  rcases List.mem_cons.mp h with rfl | h
  · exact zq_1012 hW
  rw [List.mem_singleton.mp h]
  exact zq_1030 hW)
