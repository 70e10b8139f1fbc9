/-! part 65: contracts of the class, by the checker -/
/-- X11_areTurns -/
noncomputable def zK_165 : zk_K := (zt_mn 86, prog_1_method_54_code, 1, (Option.some Jvm.ClassFile.FieldType.boolean), 0, 11, [(0, 0, (-2147483648), 2147483647)], [(some (0, 0, 0, 0), []), (some (0, 0, 1, 1), [(0, 1, 11), (0, 99, 12), (1, 0, 1), (99, 0, 0)])], [], (1, 22, 0, 0))
theorem zq_165 {l : Launch} {w : zk_W} (hW : zh_W w) : zh_K l w zK_165 := zh_meth hW (lk := []) (KS := [zK_12]) (km := [15]) (lc := [(1, 107, 15)]) (CL0 := zc_X11_areTurns) (ns := []) (AN := []) (fuel := 70) (pl := 921) (by decide +kernel) (by decide +kernel) zd_X11_areTurns (by
  intro K h
  rw [List.mem_singleton.mp h]
  exact zq_12 hW)