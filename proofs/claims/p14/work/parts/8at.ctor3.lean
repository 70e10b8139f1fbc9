/-! part 8at: the constructors, copyFrom, with the types of the group -/
/-- X2_init -/
noncomputable def zK_3000 : zk_K := (zt_mn 2, prog_4_method_1_code, 1, (Option.none : Option Jvm.ClassFile.FieldType), 2, 2, [(3, 117, 0, 0)], [(none, [])], [], (1, 60, 3, 22))
theorem zq_3000 {l : Launch} {w : zk_W} (hW : zh_W w) : zh_K l w zK_3000 := zh_meth hW (lk := [(7, 3, 0, 0, 0), (5, 1, 1, 0, 0), (2, 9, 2, 0, 18), (2, 15, 2, 1, 18), (2, 18, 2, 2, 18), (2, 21, 2, 3, 0), (2, 25, 2, 5, 0)]) (KS := []) (km := []) (lc := []) (CL0 := zc_X2_init) (ns := [(7, 118, []), (15, 119, []), (23, 120, [])]) (AN := []) (fuel := 134) (pl := 156) (by decide +kernel) (by decide +kernel) zd_X2_init (fun K h => nomatch h)
/-- X9_init -/
noncomputable def zK_3001 : zk_K := (zt_mn 1, prog_11_method_1_code, 1, (Option.none : Option Jvm.ClassFile.FieldType), 2, 9, [(3, 98, 0, 0)], [(none, [])], [], (2, 80, 15, 179))
theorem zq_3001 {l : Launch} {w : zk_W} (hW : zh_W w) : zh_K l w zK_3001 := zh_meth hW (lk := [(7, 3, 0, 0, 0), (5, 1, 1, 0, 0), (2, 9, 9, 0, 18), (2, 15, 9, 2, 18), (2, 18, 9, 4, 18), (2, 21, 9, 5, 18), (2, 24, 9, 6, 18), (2, 27, 9, 7, 18), (2, 30, 9, 8, 18), (2, 33, 9, 10, 18), (2, 36, 9, 11, 18), (2, 39, 9, 12, 18), (4, 42, 8, 0, 0), (2, 44, 9, 13, 18), (2, 48, 9, 15, 0), (2, 52, 9, 16, 0), (3, 55, 2, 7, 0), (2, 58, 9, 18, 18)]) (KS := [zK_3000]) (km := [2]) (lc := [(2, 57, 2)]) (CL0 := zc_X9_init) (ns := [(7, 103, []), (15, 104, []), (23, 105, []), (31, 106, []), (39, 107, []), (47, 108, []), (55, 109, []), (63, 110, []), (71, 111, []), (79, 112, []), (87, 52, [])]) (AN := []) (fuel := 282) (pl := 148) (by decide +kernel) (by decide +kernel) zd_X9_init (by
  intro K h
  rw [List.mem_singleton.mp h]
  exact zq_3000 hW)
/-- X10_init -/
noncomputable def zK_3002 : zk_K := (zt_mn 3, prog_12_method_1_code, 1, (Option.none : Option Jvm.ClassFile.FieldType), 2, 10, [(3, 133, 0, 0)], [(none, [])], [], (1, 60, 2, 432))
theorem zq_3002 {l : Launch} {w : zk_W} (hW : zh_W w) : zh_K l w zK_3002 := zh_meth hW (lk := [(7, 3, 0, 0, 0), (5, 1, 1, 0, 0), (2, 11, 10, 0, 18), (2, 17, 10, 1, 18)]) (KS := []) (km := []) (lc := []) (CL0 := zc_X10_init) (ns := [(7, 134, []), (16, 135, [])]) (AN := []) (fuel := 94) (pl := 305) (by decide +kernel) (by decide +kernel) zd_X10_init (fun K h => nomatch h)
/-- X0_init -/
noncomputable def zK_3004 : zk_K := (zt_mn 5, prog_2_method_1_code, 3, (Option.none : Option Jvm.ClassFile.FieldType), 2, 0, [(3, 99, 0, 0), (2, 6, 0, 0), (2, 98, 0, 0)], [(none, [])], [], (1, 60, 3, 44))
theorem zq_3004 {l : Launch} {w : zk_W} (hW : zh_W w) : zh_K l w zK_3004 := zh_meth hW (lk := [(7, 3, 0, 0, 0), (5, 1, 1, 0, 0), (2, 9, 0, 3, 18), (2, 15, 0, 4, 18), (2, 18, 0, 5, 18), (2, 21, 0, 0, 18), (2, 25, 0, 1, 2), (2, 29, 9, 18, 34), (2, 35, 0, 2, 2)]) (KS := []) (km := []) (lc := []) (CL0 := zc_X0_init) (ns := [(7, 14, []), (15, 15, []), (23, 16, [])]) (AN := []) (fuel := 150) (pl := 342) (by decide +kernel) (by decide +kernel) zd_X0_init (fun K h => nomatch h)
/-- X2_init -/
noncomputable def zK_3007 : zk_K := (zt_mn 2, prog_4_method_1_code, 1, (Option.none : Option Jvm.ClassFile.FieldType), 2, 2, [(3, 121, 0, 0)], [(none, [])], [], (1, 60, 3, 22))
theorem zq_3007 {l : Launch} {w : zk_W} (hW : zh_W w) : zh_K l w zK_3007 := zh_meth hW (lk := [(7, 3, 0, 0, 0), (5, 1, 1, 0, 0), (2, 9, 2, 0, 18), (2, 15, 2, 1, 18), (2, 18, 2, 2, 18), (2, 21, 2, 3, 0), (2, 25, 2, 5, 0)]) (KS := []) (km := []) (lc := []) (CL0 := zc_X2_init) (ns := [(7, 122, []), (15, 123, []), (23, 124, [])]) (AN := []) (fuel := 134) (pl := 156) (by decide +kernel) (by decide +kernel) zd_X2_init (fun K h => nomatch h)
/-- X1_init -/
noncomputable def zK_3008 : zk_K := (zt_mn 8, prog_3_method_1_code, 1, (Option.none : Option Jvm.ClassFile.FieldType), 2, 1, [(3, 139, 0, 0)], [(none, [])], [], (2, 80, 4, 29))
theorem zq_3008 {l : Launch} {w : zk_W} (hW : zh_W w) : zh_K l w zK_3008 := zh_meth hW (lk := [(7, 3, 0, 0, 0), (3, 9, 2, 7, 0), (2, 12, 1, 0, 18), (2, 18, 1, 3, 0)]) (KS := [zK_3007]) (km := [2]) (lc := [(2, 11, 2)]) (CL0 := zc_X1_init) (ns := []) (AN := []) (fuel := 94) (pl := 416) (by decide +kernel) (by decide +kernel) zd_X1_init (by
  intro K h
  rw [List.mem_singleton.mp h]
  exact zq_3007 hW)
/-- X7_init -/
noncomputable def zK_3009 : zk_K := (zt_mn 9, prog_9_method_1_code, 1, (Option.none : Option Jvm.ClassFile.FieldType), 2, 7, [(3, 94, 0, 0)], [(none, [])], [], (1, 60, 1, 400))
theorem zq_3009 {l : Launch} {w : zk_W} (hW : zh_W w) : zh_K l w zK_3009 := zh_meth hW (lk := [(7, 3, 0, 0, 0), (5, 1, 1, 0, 0), (2, 11, 7, 0, 18)]) (KS := []) (km := []) (lc := []) (CL0 := zc_X7_init) (ns := [(8, 114, [])]) (AN := []) (fuel := 78) (pl := 437) (by decide +kernel) (by decide +kernel) zd_X7_init (fun K h => nomatch h)
/-- X5_init -/
noncomputable def zK_3011 : zk_K := (zt_mn 10, prog_7_method_1_code, 2, (Option.none : Option Jvm.ClassFile.FieldType), 2, 5, [(3, 95, 0, 0), (2, 94, 0, 0)], [(none, [])], [], (2, 83, 7, 940))
theorem zq_3011 {l : Launch} {w : zk_W} (hW : zh_W w) : zh_K l w zK_3011 := zh_meth hW (lk := [(7, 5, 0, 0, 0), (3, 11, 8, 8, 0), (2, 16, 5, 1, 18), (2, 20, 5, 2, 0), (2, 24, 5, 0, 18)]) (KS := [zK_9]) (km := [11]) (lc := [(2, 13, 11)]) (CL0 := zc_X5_init) (ns := []) (AN := []) (fuel := 114) (pl := 465) (by decide +kernel) (by decide +kernel) zd_X5_init (by
  intro K h
  rw [List.mem_singleton.mp h]
  exact zq_9 hW)
/-- X2_init -/
noncomputable def zK_3012 : zk_K := (zt_mn 2, prog_4_method_1_code, 1, (Option.none : Option Jvm.ClassFile.FieldType), 2, 2, [(3, 129, 0, 0)], [(none, [])], [], (1, 60, 3, 22))
theorem zq_3012 {l : Launch} {w : zk_W} (hW : zh_W w) : zh_K l w zK_3012 := zh_meth hW (lk := [(7, 3, 0, 0, 0), (5, 1, 1, 0, 0), (2, 9, 2, 0, 18), (2, 15, 2, 1, 18), (2, 18, 2, 2, 18), (2, 21, 2, 3, 0), (2, 25, 2, 5, 0)]) (KS := []) (km := []) (lc := []) (CL0 := zc_X2_init) (ns := [(7, 130, []), (15, 131, []), (23, 132, [])]) (AN := []) (fuel := 134) (pl := 156) (by decide +kernel) (by decide +kernel) zd_X2_init (fun K h => nomatch h)
/-- X10_init -/
noncomputable def zK_3013 : zk_K := (zt_mn 3, prog_12_method_1_code, 1, (Option.none : Option Jvm.ClassFile.FieldType), 2, 10, [(3, 136, 0, 0)], [(none, [])], [], (1, 60, 2, 432))
theorem zq_3013 {l : Launch} {w : zk_W} (hW : zh_W w) : zh_K l w zK_3013 := zh_meth hW (lk := [(7, 3, 0, 0, 0), (5, 1, 1, 0, 0), (2, 11, 10, 0, 18), (2, 17, 10, 1, 18)]) (KS := []) (km := []) (lc := []) (CL0 := zc_X10_init) (ns := [(7, 137, []), (16, 138, [])]) (AN := []) (fuel := 94) (pl := 305) (by decide +kernel) (by decide +kernel) zd_X10_init (fun K h => nomatch h)
/-- X2_init -/
noncomputable def zK_3014 : zk_K := (zt_mn 2, prog_4_method_1_code, 1, (Option.none : Option Jvm.ClassFile.FieldType), 2, 2, [(3, 125, 0, 0)], [(none, [])], [], (1, 60, 3, 22))
theorem zq_3014 {l : Launch} {w : zk_W} (hW : zh_W w) : zh_K l w zK_3014 := zh_meth hW (lk := [(7, 3, 0, 0, 0), (5, 1, 1, 0, 0), (2, 9, 2, 0, 18), (2, 15, 2, 1, 18), (2, 18, 2, 2, 18), (2, 21, 2, 3, 0), (2, 25, 2, 5, 0)]) (KS := []) (km := []) (lc := []) (CL0 := zc_X2_init) (ns := [(7, 126, []), (15, 127, []), (23, 128, [])]) (AN := []) (fuel := 134) (pl := 156) (by decide +kernel) (by decide +kernel) zd_X2_init (fun K h => nomatch h)
/-- X11_init -/
noncomputable def zK_3015 : zk_K := (zt_mn 0, prog_1_method_1_code, 1, (Option.none : Option Jvm.ClassFile.FieldType), 2, 11, [(3, 101, 0, 0)], [(none, [])], [], (3, 104, 64, 4843))
theorem zq_3015 {l : Launch} {w : zk_W} (hW : zh_W w) : zh_K l w zK_3015 := zh_meth hW (lk := [(7, 1, 0, 0, 0), (3, 7, 9, 19, 0), (2, 10, 11, 0, 18), (4, 7, 9, 0, 0), (2, 16, 11, 1, 18), (3, 20, 10, 4, 0), (2, 23, 11, 2, 18), (3, 27, 6, 3, 0), (2, 30, 11, 3, 18), (3, 34, 0, 6, 0), (2, 39, 11, 4, 18), (3, 43, 3, 7, 0), (2, 46, 11, 5, 18), (3, 50, 4, 2, 0), (2, 53, 11, 6, 18), (3, 57, 1, 4, 0), (2, 60, 11, 7, 18), (3, 64, 7, 6, 0), (2, 67, 11, 8, 18), (3, 71, 5, 5, 0), (2, 76, 11, 9, 18), (3, 80, 2, 7, 0), (2, 83, 11, 10, 18), (2, 87, 11, 11, 18), (5, 1, 1, 0, 0), (2, 90, 11, 12, 18), (2, 94, 11, 14, 0), (2, 98, 11, 15, 0), (2, 101, 11, 16, 18), (2, 104, 11, 19, 18)]) (KS := [zK_3001, zK_3002, zK_3, zK_3004, zK_5, zK_6, zK_3008, zK_3009, zK_3011, zK_3012, zK_3013, zK_3014]) (km := [1, 3, 4, 5, 6, 7, 8, 9, 10, 2, 3, 2]) (lc := [(2, 9, 1), (2, 22, 3), (2, 29, 4), (2, 36, 5), (2, 45, 6), (2, 52, 7), (2, 59, 8), (2, 66, 9), (2, 73, 10), (2, 82, 2)]) (CL0 := zc_X11_init) (ns := [(17, 96, []), (28, 1, []), (39, 2, []), (58, 3, []), (69, 4, []), (80, 5, []), (91, 6, []), (102, 7, []), (117, 8, []), (128, 9, []), (139, 10, []), (148, 56, []), (168, 11, []), (176, 113, [])]) (AN := []) (fuel := 398) (pl := 140) (by decide +kernel) (by decide +kernel) zd_X11_init (by
  intro K h
  rcases List.mem_cons.mp h with rfl | h
  · exact zq_3001 hW
  rcases List.mem_cons.mp h with rfl | h
  · exact zq_3002 hW
  rcases List.mem_cons.mp h with rfl | h
  · exact zq_3 hW
  rcases List.mem_cons.mp h with rfl | h
  · exact zq_3004 hW
  rcases List.mem_cons.mp h with rfl | h
  · exact zq_5 hW
  rcases List.mem_cons.mp h with rfl | h
  · exact zq_6 hW
  rcases List.mem_cons.mp h with rfl | h
  · exact zq_3008 hW
  rcases List.mem_cons.mp h with rfl | h
  · exact zq_3009 hW
  rcases List.mem_cons.mp h with rfl | h
  · exact zq_3011 hW
  rcases List.mem_cons.mp h with rfl | h
  · exact zq_3012 hW
  rcases List.mem_cons.mp h with rfl | h
  · exact zq_3013 hW
  rw [List.mem_singleton.mp h]
  exact zq_3014 hW)
/-- X12_init -/
noncomputable def zK_3100 : zk_K := (zt_mn 181, prog_14_method_1_code, 1, (Option.none : Option Jvm.ClassFile.FieldType), 2, 12, [(3, 102, 0, 0)], [(none, [])], [], (1, 60, 34, 21139))
theorem zq_3100 {l : Launch} {w : zk_W} (hW : zh_W w) : zh_K l w zK_3100 := zh_meth hW (lk := [(7, 1, 0, 0, 0), (5, 1, 1, 0, 0), (2, 7, 12, 2, 18), (2, 13, 12, 3, 18), (2, 16, 12, 4, 18), (5, 4, 4, 0, 0), (2, 19, 12, 5, 18), (2, 23, 12, 6, 18), (2, 26, 12, 7, 18), (2, 29, 12, 9, 18), (2, 32, 12, 10, 18), (2, 35, 12, 12, 18), (2, 38, 12, 18, 0), (2, 42, 12, 22, 18), (2, 45, 12, 24, 18), (2, 48, 12, 25, 18), (2, 51, 12, 27, 18), (2, 54, 12, 28, 18), (5, 2, 2, 0, 0), (1, 57, 0, 0, 21678547), (1, 59, 0, 0, 17292466), (1, 61, 0, 0, 278194), (1, 63, 0, 0, 542723566), (1, 65, 0, 0, 15660), (1, 67, 0, 0, 412766597), (1, 69, 0, 0, 402629), (1, 71, 0, 0, 4153), (1, 73, 0, 0, 441828), (2, 75, 12, 31, 18), (1, 79, 0, 0, 146885), (1, 81, 0, 0, 5705892), (1, 83, 0, 0, 398548), (2, 85, 12, 32, 18), (1, 88, 0, 0, 611795), (1, 90, 0, 0, 654480531), (1, 92, 0, 0, 24282707), (1, 94, 0, 0, 20383251), (1, 96, 0, 0, 67155), (2, 98, 12, 33, 18), (2, 101, 12, 35, 18), (2, 104, 12, 36, 18), (2, 107, 12, 37, 18), (2, 110, 12, 41, 18), (2, 113, 12, 42, 18), (2, 116, 12, 43, 18), (2, 119, 12, 44, 18), (2, 122, 12, 45, 18), (2, 125, 12, 46, 18), (2, 128, 12, 47, 0), (2, 131, 12, 48, 18), (2, 134, 12, 50, 18), (2, 137, 12, 51, 18), (2, 140, 12, 52, 18), (2, 143, 12, 54, 18), (2, 146, 12, 55, 18), (2, 149, 12, 56, 18), (2, 152, 12, 59, 0), (2, 155, 12, 62, 18), (2, 158, 12, 63, 0)]) (KS := []) (km := []) (lc := []) (CL0 := zc_X12_init) (ns := [(7, 115, []), (16, 100, []), (25, 60, []), (32, 97, []), (41, 62, []), (49, 63, []), (58, 64, []), (66, 65, []), (75, 116, []), (88, 67, []), (97, 68, []), (106, 69, []), (115, 70, []), (124, 71, []), (132, 72, []), (197, 73, []), (247, 74, []), (285, 75, []), (293, 76, []), (302, 77, []), (310, 78, []), (319, 79, []), (328, 80, []), (336, 81, []), (344, 82, []), (352, 83, []), (365, 84, []), (373, 85, []), (381, 86, []), (389, 87, []), (397, 88, []), (405, 89, []), (413, 90, []), (426, 91, [])]) (AN := []) (fuel := 1070) (pl := 1341) (by decide +kernel) (by decide +kernel) zd_X12_init (fun K h => nomatch h)