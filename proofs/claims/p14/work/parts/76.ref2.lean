/-! part 43: contracts of the reference, by the checker -/
/-- X12_ofWork -/
noncomputable def zK_1087 : zk_K := (zt_mn 196, prog_14_method_18_code, 3, (Option.some Jvm.ClassFile.FieldType.int), 1, 12, [(2, 13, 0, 0), (0, 0, 0, 9), (0, 0, 2, 2)], [(some (0, 0, (-2147483648), 2147483647), [])], [], (0, 0, 0, 0))
theorem zq_1087 {l : Launch} {w : zk_W} (hW : zh_W w) : zh_K l w zK_1087 := zh_meth hW (lk := [(2, 13, 12, 3, 18)]) (KS := []) (km := []) (lc := []) (CL0 := zc_X12_ofWork) (ns := [(8, 0, [(0, 0, 10)])]) (AN := []) (fuel := 94) (pl := 1616) (by decide +kernel) (by decide +kernel) zd_X12_ofWork (fun K h => nomatch h)
/-- X12_isInTime -/
noncomputable def zK_1088 : zk_K := (zt_mn 256, prog_14_method_78_code, 2, (Option.some Jvm.ClassFile.FieldType.boolean), 1, 12, [(2, 13, 0, 0), (0, 0, 0, 9)], [(some (0, 0, 0, 0), []), (some (0, 0, 1, 1), [])], [], (1, 22, 0, 0))
theorem zq_1088 {l : Launch} {w : zk_W} (hW : zh_W w) : zh_K l w zK_1088 := zh_meth hW (lk := [(2, 122, 12, 45, 18)]) (KS := [zK_1087]) (km := [196]) (lc := [(0, 188, 196)]) (CL0 := zc_X12_isInTime) (ns := []) (AN := []) (fuel := 126) (pl := 1877) (by decide +kernel) (by decide +kernel) zd_X12_isInTime (by
  intro K h
  rw [List.mem_singleton.mp h]
  exact zq_1087 hW)
/-- X12_ofWork -/
noncomputable def zK_1089 : zk_K := (zt_mn 196, prog_14_method_18_code, 3, (Option.some Jvm.ClassFile.FieldType.int), 1, 12, [(2, 13, 0, 0), (0, 0, 0, 9), (0, 0, 3, 3)], [(some (0, 0, (-2147483648), 2147483647), [])], [], (0, 0, 0, 0))
theorem zq_1089 {l : Launch} {w : zk_W} (hW : zh_W w) : zh_K l w zK_1089 := zh_meth hW (lk := [(2, 13, 12, 3, 18)]) (KS := []) (km := []) (lc := []) (CL0 := zc_X12_ofWork) (ns := [(8, 0, [(0, 0, 10)])]) (AN := []) (fuel := 94) (pl := 1616) (by decide +kernel) (by decide +kernel) zd_X12_ofWork (fun K h => nomatch h)
/-- X12_is -/
noncomputable def zK_1092 : zk_K := (zt_mn 258, prog_14_method_4_code, 2, (Option.some Jvm.ClassFile.FieldType.boolean), 0, 12, [(0, 0, (-2147483648), 2147483647), (0, 0, (-2147483648), 2147483647)], [(some (0, 0, 0, 0), []), (some (0, 0, 1, 1), [])], [], (0, 0, 0, 0))
theorem zq_1092 {l : Launch} {w : zk_W} (hW : zh_W w) : zh_K l w zK_1092 := zh_meth hW (lk := []) (KS := []) (km := []) (lc := []) (CL0 := zc_X12_is) (ns := []) (AN := []) (fuel := 94) (pl := 1884) (by decide +kernel) (by decide +kernel) zd_X12_is (fun K h => nomatch h)