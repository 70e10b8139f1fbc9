/-! part 60: contracts of the class, by the checker -/
/-- X6_init -/
noncomputable def zK_3 : zk_K := (zt_mn 4, prog_8_method_1_code, 1, (Option.none : Option Jvm.ClassFile.FieldType), 2, 6, [(3, 6, 0, 0)], [(none, [])], [], (1, 60, 2, 73))
theorem zq_3 {l : Launch} {w : zk_W} (hW : zh_W w) : zh_K l w zK_3 := zh_meth hW (lk := [(7, 3, 0, 0, 0), (5, 1, 1, 0, 0), (2, 11, 6, 0, 18), (5, 2, 2, 0, 0), (2, 15, 6, 1, 18)]) (KS := []) (km := []) (lc := []) (CL0 := zc_X6_init) (ns := [(7, 27, []), (15, 28, [])]) (AN := []) (fuel := 94) (pl := 325) (by decide +kernel) (by decide +kernel) zd_X6_init (fun K h => nomatch h)
/-- X3_init -/
noncomputable def zK_5 : zk_K := (zt_mn 6, prog_5_method_1_code, 1, (Option.none : Option Jvm.ClassFile.FieldType), 2, 3, [(3, 3, 0, 0)], [(none, [])], [], (1, 60, 5, 56))
theorem zq_5 {l : Launch} {w : zk_W} (hW : zh_W w) : zh_K l w zK_5 := zh_meth hW (lk := [(7, 3, 0, 0, 0), (5, 1, 1, 0, 0), (2, 11, 3, 0, 18), (2, 15, 3, 1, 18), (2, 18, 3, 2, 18), (2, 21, 3, 3, 18), (2, 24, 3, 4, 18)]) (KS := []) (km := []) (lc := []) (CL0 := zc_X3_init) (ns := [(7, 20, []), (15, 21, []), (23, 22, []), (31, 23, []), (39, 24, [])]) (AN := []) (fuel := 142) (pl := 372) (by decide +kernel) (by decide +kernel) zd_X3_init (fun K h => nomatch h)
/-- X4_init -/
noncomputable def zK_6 : zk_K := (zt_mn 7, prog_6_method_1_code, 1, (Option.none : Option Jvm.ClassFile.FieldType), 2, 4, [(3, 4, 0, 0)], [(none, [])], [], (1, 60, 2, 2112))
theorem zq_6 {l : Launch} {w : zk_W} (hW : zh_W w) : zh_K l w zK_6 := zh_meth hW (lk := [(7, 5, 0, 0, 0), (5, 1, 1, 0, 0), (2, 11, 4, 0, 18), (2, 15, 4, 1, 18)]) (KS := []) (km := []) (lc := []) (CL0 := zc_X4_init) (ns := [(7, 25, []), (16, 26, [])]) (AN := []) (fuel := 94) (pl := 403) (by decide +kernel) (by decide +kernel) zd_X4_init (fun K h => nomatch h)
/-- X8_init -/
noncomputable def zK_9 : zk_K := (zt_mn 11, prog_10_method_1_code, 4, (Option.none : Option Jvm.ClassFile.FieldType), 2, 8, [(3, 8, 0, 0), (0, 0, 12, 12), (0, 0, 872, 872)], [(none, [])], [], (1, 60, 6, 932))
theorem zq_9 {l : Launch} {w : zk_W} (hW : zh_W w) : zh_K l w zK_9 := zh_meth hW (lk := [(7, 7, 0, 0, 0), (6, 13, 1, 0, 0), (6, 19, 0, 0, 0), (5, 1, 1, 0, 0), (2, 22, 8, 0, 18), (2, 26, 8, 1, 18), (2, 29, 8, 2, 18), (2, 32, 8, 3, 18), (2, 35, 8, 4, 18), (2, 38, 8, 5, 18)]) (KS := []) (km := []) (lc := []) (CL0 := zc_X8_init) (ns := [(17, 30, []), (24, 31, []), (31, 32, []), (38, 33, []), (45, 34, []), (62, 35, [])]) (AN := []) (fuel := 198) (pl := 471) (by decide +kernel) (by decide +kernel) zd_X8_init (fun K h => nomatch h)
/-- X11_isWithin -/
noncomputable def zK_12 : zk_K := (zt_mn 15, prog_1_method_55_code, 3, (Option.some Jvm.ClassFile.FieldType.boolean), 0, 11, [(0, 0, (-2147483648), 2147483647), (0, 0, (-2147483648), 2147483647), (0, 0, (-2147483648), 2147483647)], [(some (0, 0, 0, 0), [(2, 1, 4294967294)]), (some (0, 0, 1, 1), [(0, 2, 0), (1, 0, 0)])], [], (0, 0, 0, 0))
theorem zq_12 {l : Launch} {w : zk_W} (hW : zh_W w) : zh_K l w zK_12 := zh_meth hW (lk := []) (KS := []) (km := []) (lc := []) (CL0 := zc_X11_isWithin) (ns := []) (AN := []) (fuel := 90) (pl := 607) (by decide +kernel) (by decide +kernel) zd_X11_isWithin (fun K h => nomatch h)
/-- X9_hasPerson -/
noncomputable def zK_19 : zk_K := (zt_mn 22, prog_11_method_3_code, 2, (Option.some Jvm.ClassFile.FieldType.boolean), 1, 9, [(2, 10, 0, 0), (0, 0, (-2147483648), 2147483647)], [(some (0, 0, 0, 0), []), (some (0, 0, 1, 1), [(1, 2, 4), (1, 99, 5), (2, 1, 1), (99, 1, 0)])], [], (0, 0, 0, 0))
theorem zq_19 {l : Launch} {w : zk_W} (hW : zh_W w) : zh_K l w zK_19 := zh_meth hW (lk := [(2, 68, 9, 1, 0)]) (KS := []) (km := []) (lc := []) (CL0 := zc_X9_hasPerson) (ns := []) (AN := []) (fuel := 102) (pl := 635) (by decide +kernel) (by decide +kernel) zd_X9_hasPerson (fun K h => nomatch h)
/-- X9_hasWork -/
noncomputable def zK_21 : zk_K := (zt_mn 26, prog_11_method_4_code, 2, (Option.some Jvm.ClassFile.FieldType.boolean), 1, 9, [(2, 10, 0, 0), (0, 0, (-2147483648), 2147483647)], [(some (0, 0, 0, 0), []), (some (0, 0, 1, 1), [(1, 2, 8), (1, 99, 9), (2, 1, 1), (99, 1, 0)])], [], (0, 0, 0, 0))
theorem zq_21 {l : Launch} {w : zk_W} (hW : zh_W w) : zh_K l w zK_21 := zh_meth hW (lk := [(2, 71, 9, 3, 0)]) (KS := []) (km := []) (lc := []) (CL0 := zc_X9_hasWork) (ns := []) (AN := []) (fuel := 102) (pl := 651) (by decide +kernel) (by decide +kernel) zd_X9_hasWork (fun K h => nomatch h)
/-- X9_isDone -/
noncomputable def zK_22 : zk_K := (zt_mn 25, prog_11_method_5_code, 2, (Option.some Jvm.ClassFile.FieldType.boolean), 1, 9, [(2, 10, 0, 0), (0, 0, (-2147483648), 2147483647)], [(some (0, 0, 0, 0), []), (some (0, 0, 1, 1), [(1, 2, 8), (1, 99, 9), (2, 1, 1), (99, 1, 0)])], [], (1, 21, 0, 0))
theorem zq_22 {l : Launch} {w : zk_W} (hW : zh_W w) : zh_K l w zK_22 := zh_meth hW (lk := [(2, 58, 9, 18, 18), (2, 91, 2, 2, 34), (2, 21, 9, 5, 18)]) (KS := [zK_21]) (km := [26]) (lc := [(0, 87, 26)]) (CL0 := zc_X9_isDone) (ns := []) (AN := []) (fuel := 122) (pl := 647) (by decide +kernel) (by decide +kernel) zd_X9_isDone (by
  intro K h
  rw [List.mem_singleton.mp h]
  exact zq_21 hW)
/-- X9_worksLeft -/
noncomputable def zK_23 : zk_K := (zt_mn 24, prog_11_method_6_code, 4, (Option.some Jvm.ClassFile.FieldType.int), 1, 9, [(2, 10, 0, 0), (0, 0, (-2147483648), 2147483647)], [(some (0, 0, (-2147483648), 2147483647), [])], [], (2, 42, 0, 0))
theorem zq_23 {l : Launch} {w : zk_W} (hW : zh_W w) : zh_K l w zK_23 := zh_meth hW (lk := [(2, 71, 9, 3, 0), (2, 18, 9, 4, 18)]) (KS := [zK_22]) (km := [25]) (lc := [(0, 94, 25)]) (CL0 := zc_X9_worksLeft) (ns := []) (AN := [(4, ([(0, 0, 0, 0), (1, 0, 0, 0), (2, 0, (-1), (-1)), (2, 10, 0, 0), (0, 0, (-2147483648), 2147483647), (0, 0, 0, 10), (0, 0, (-2147483648), 2147483647)], [], [], [], [(3, (5, 0)), (2, (6, 0)), (0, (3, 0)), (1, (4, 0))], [(0, 3), (1, 4)], []), [], 0, 0, (10, [((-1), 5)]))]) (fuel := 154) (pl := 643) (by decide +kernel) (by decide +kernel) zd_X9_worksLeft (by
  intro K h
  rw [List.mem_singleton.mp h]
  exact zq_22 hW)