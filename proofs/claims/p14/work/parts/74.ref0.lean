/-! part 41: contracts of the reference, by the checker -/
/-- X12_in -/
noncomputable def zK_1011 : zk_K := (zt_mn 186, prog_14_method_3_code, 6, (Option.some Jvm.ClassFile.FieldType.boolean), 0, 12, [(1, 0, (-9223372036854775808), 9223372036854775807), (1, 0, 0, 0), (1, 0, (-1), 5)], [(some (0, 0, 0, 0), []), (some (0, 0, 1, 1), [(0, 1, 5), (0, 2, 0), (0, 3, 4), (0, 99, 5), (1, 0, 0), (1, 2, 0), (2, 0, 5), (3, 0, 1), (3, 2, 1), (99, 0, 0), (99, 2, 0)])], [], (0, 0, 0, 0))
theorem zq_1011 {l : Launch} {w : zk_W} (hW : zh_W w) : zh_K l w zK_1011 := zh_meth hW (lk := []) (KS := []) (km := []) (lc := []) (CL0 := zc_X12_in) (ns := []) (AN := []) (fuel := 98) (pl := 1572) (by decide +kernel) (by decide +kernel) zd_X12_in (fun K h => nomatch h)
/-- X12_isPerson -/
noncomputable def zK_1012 : zk_K := (zt_mn 193, prog_14_method_19_code, 2, (Option.some Jvm.ClassFile.FieldType.boolean), 1, 12, [(2, 13, 0, 0), (0, 0, (-2147483648), 2147483647)], [(some (0, 0, 0, 0), []), (some (0, 0, 1, 1), [(1, 2, 4), (1, 99, 5), (2, 1, 1), (99, 1, 0)])], [], (1, 25, 0, 0))
theorem zq_1012 {l : Launch} {w : zk_W} (hW : zh_W w) : zh_K l w zK_1012 := zh_meth hW (lk := [(2, 13, 12, 3, 18)]) (KS := [zK_1011]) (km := [186]) (lc := [(1, 181, 186)]) (CL0 := zc_X12_isPerson) (ns := [(15, 0, [(0, 0, 0)])]) (AN := []) (fuel := 98) (pl := 1603) (by decide +kernel) (by decide +kernel) zd_X12_isPerson (by
  intro K h
  rw [List.mem_singleton.mp h]
  exact zq_1011 hW)
/-- X12_ofWork -/
noncomputable def zK_1022 : zk_K := (zt_mn 196, prog_14_method_18_code, 3, (Option.some Jvm.ClassFile.FieldType.int), 1, 12, [(2, 13, 0, 0), (0, 0, 0, 9), (0, 0, 0, 0)], [(some (0, 0, 0, 5), [])], [], (0, 0, 0, 0))
theorem zq_1022 {l : Launch} {w : zk_W} (hW : zh_W w) : zh_K l w zK_1022 := zh_meth hW (lk := [(2, 13, 12, 3, 18)]) (KS := []) (km := []) (lc := []) (CL0 := zc_X12_ofWork) (ns := [(8, 0, [(0, 0, 10)])]) (AN := []) (fuel := 94) (pl := 1616) (by decide +kernel) (by decide +kernel) zd_X12_ofWork (fun K h => nomatch h)
/-- X12_ofWork -/
noncomputable def zK_1023 : zk_K := (zt_mn 196, prog_14_method_18_code, 3, (Option.some Jvm.ClassFile.FieldType.int), 1, 12, [(2, 13, 0, 0), (0, 0, 0, 9), (0, 0, 1, 1)], [(some (0, 0, (-2147483648), 2147483647), [])], [], (0, 0, 0, 0))
theorem zq_1023 {l : Launch} {w : zk_W} (hW : zh_W w) : zh_K l w zK_1023 := zh_meth hW (lk := [(2, 13, 12, 3, 18)]) (KS := []) (km := []) (lc := []) (CL0 := zc_X12_ofWork) (ns := [(8, 0, [(0, 0, 10)])]) (AN := []) (fuel := 94) (pl := 1616) (by decide +kernel) (by decide +kernel) zd_X12_ofWork (fun K h => nomatch h)
/-- X12_isOver -/
noncomputable def zK_1024 : zk_K := (zt_mn 197, prog_14_method_21_code, 2, (Option.some Jvm.ClassFile.FieldType.boolean), 1, 12, [(2, 13, 0, 0), (0, 0, 0, 9)], [(some (0, 0, 0, 0), []), (some (0, 0, 1, 1), [])], [], (1, 22, 0, 0))
theorem zq_1024 {l : Launch} {w : zk_W} (hW : zh_W w) : zh_K l w zK_1024 := zh_meth hW (lk := [(2, 13, 12, 3, 18)]) (KS := [zK_1023]) (km := [196]) (lc := [(0, 188, 196)]) (CL0 := zc_X12_isOver) (ns := []) (AN := []) (fuel := 110) (pl := 1620) (by decide +kernel) (by decide +kernel) zd_X12_isOver (by
  intro K h
  rw [List.mem_singleton.mp h]
  exact zq_1023 hW)