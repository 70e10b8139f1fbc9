/-! part 46: contracts of the reference, by the checker -/
/-- X12_in -/
def zK_1137 : zk_K := (zt_mn 186, prog_14_method_3_code, 6, (Option.some Jvm.ClassFile.FieldType.boolean), 0, 12, [(1, 0, (-9223372036854775808), 9223372036854775807), (1, 0, 0, 0), (1, 0, 3, 13)], [(some (0, 0, 0, 0), []), (some (0, 0, 1, 1), [(0, 1, 13), (0, 2, 0), (0, 3, 12), (0, 99, 13), (1, 0, 0), (2, 0, 13), (3, 0, 1), (99, 0, 0)])], [], (0, 0, 0, 0))
theorem zq_1137 {l : Launch} {w : zk_W} (hW : zh_W w) : zh_K l w zK_1137 := zh_meth hW (lk := []) (KS := []) (km := []) (lc := []) (CL0 := zc_X12_in) (ns := []) (AN := []) (fuel := 98) (pl := 1572) (by decide +kernel) (by decide +kernel) zd_X12_in (fun K h => nomatch h)
/-- X12_drawn -/
def zK_1138 : zk_K := (zt_mn 297, prog_14_method_118_code, 2, (Option.some Jvm.ClassFile.FieldType.int), 1, 12, [(2, 13, 0, 0), (0, 0, (-2147483648), 2147483647)], [(some (0, 0, (-1), (-1)), []), (some (0, 0, (-2147483648), 2147483647), [(1, 2, 2147483661), (1, 99, 13), (2, 1, 2147483647), (99, 1, 0)])], [(13, 0, 0)], (1, 25, 0, 0))
theorem zq_1138 {l : Launch} {w : zk_W} (hW : zh_W w) : zh_K l w zK_1138 := zh_meth hW (lk := [(2, 161, 12, 0, 0), (2, 158, 12, 63, 0), (1, 205, 0, 0, 3), (2, 155, 12, 62, 18)]) (KS := [zK_1137]) (km := [186]) (lc := [(1, 181, 186)]) (CL0 := zc_X12_drawn) (ns := [(28, 0, [(0, 0, 0)])]) (AN := []) (fuel := 146) (pl := 2052) (by decide +kernel) (by decide +kernel) zd_X12_drawn (by
  intro K h
  rw [List.mem_singleton.mp h]
  exact zq_1137 hW)
/-- X12_in -/
def zK_1139 : zk_K := (zt_mn 186, prog_14_method_3_code, 6, (Option.some Jvm.ClassFile.FieldType.boolean), 0, 12, [(1, 0, (-9223372036854775808), 9223372036854775807), (1, 0, 15, 15), (1, 0, 17, 17)], [(some (0, 0, 0, 0), []), (some (0, 0, 1, 1), [(0, 1, 2), (0, 2, 0), (0, 3, 16), (0, 99, 17), (1, 0, 0), (2, 0, 2), (3, 0, (-14)), (99, 0, (-15))])], [], (0, 0, 0, 0))
theorem zq_1139 {l : Launch} {w : zk_W} (hW : zh_W w) : zh_K l w zK_1139 := zh_meth hW (lk := []) (KS := []) (km := []) (lc := []) (CL0 := zc_X12_in) (ns := []) (AN := []) (fuel := 98) (pl := 1572) (by decide +kernel) (by decide +kernel) zd_X12_in (fun K h => nomatch h)
/-- X12_count -/
def zK_1140 : zk_K := (zt_mn 298, prog_14_method_119_code, 2, (Option.some Jvm.ClassFile.FieldType.int), 1, 12, [(2, 13, 0, 0), (0, 0, (-2147483648), 2147483647)], [(some (0, 0, (-1), (-1)), []), (some (0, 0, (-2147483648), 2147483647), [(1, 2, 2147483665), (1, 99, 17), (2, 1, 2147483641), (99, 1, 0)])], [(13, 0, 0)], (1, 25, 0, 0))
theorem zq_1140 {l : Launch} {w : zk_W} (hW : zh_W w) : zh_K l w zK_1140 := zh_meth hW (lk := [(2, 161, 12, 0, 0), (2, 13, 12, 3, 18), (2, 167, 12, 8, 0), (2, 228, 12, 13, 0), (2, 7, 12, 2, 18), (1, 573, 0, 0, 15), (1, 575, 0, 0, 17)]) (KS := [zK_1139]) (km := [186]) (lc := [(1, 181, 186)]) (CL0 := zc_X12_count) (ns := [(196, 0, [(0, 0, 0)])]) (AN := []) (fuel := 422) (pl := 2056) (by decide +kernel) (by decide +kernel) zd_X12_count (by
  intro K h
  rw [List.mem_singleton.mp h]
  exact zq_1139 hW)
/-- X12_status -/
def zK_1141 : zk_K := (zt_mn 299, prog_14_method_120_code, 1, (Option.some Jvm.ClassFile.FieldType.int), 1, 12, [(2, 13, 0, 0)], [(some (0, 0, (-2147483648), 2147483647), [])], [(13, 0, 0)], (0, 0, 0, 0))
theorem zq_1141 {l : Launch} {w : zk_W} (hW : zh_W w) : zh_K l w zK_1141 := zh_meth hW (lk := [(2, 161, 12, 0, 0), (2, 164, 12, 1, 0)]) (KS := []) (km := []) (lc := []) (CL0 := zc_X12_status) (ns := []) (AN := []) (fuel := 74) (pl := 2062) (by decide +kernel) (by decide +kernel) zd_X12_status (fun K h => nomatch h)
