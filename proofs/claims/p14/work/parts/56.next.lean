/-! part 56: the parser: next -/
theorem zp_rg0 {n : Int} (h : zk_rg 0 n) : -2147483648 ≤ n ∧ n ≤ 2147483647 := h
noncomputable def zK_nx : zk_K := (zt_mn 212, prog_14_method_38_code, 1, (Option.none : Option Jvm.ClassFile.FieldType), 1, 12, [(2, 92, 0, 0)], [(none, [])], [(92, 14, 0), (92, 15, 0), (92, 16, 0), (92, 17, 0)], (1, 25, 0, 0))