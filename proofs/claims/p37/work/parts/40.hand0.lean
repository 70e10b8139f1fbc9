/-! part 40: contracts of the reference done by hand -/
/-- X12_tells -/
def zK_1054 : zk_K := (zt_mn 240, prog_14_method_67_code, 8, (Option.some Jvm.ClassFile.FieldType.long), 1, 12, [(2, 13, 0, 0), (0, 0, (-2147483648), 2147483647), (1, 0, (-9223372036854775808), 9223372036854775807)], [(some (1, 0, (-9223372036854775808), 9223372036854775807), [])], [(13, 34, 0), (13, 40, 0), (13, 38, 0), (13, 39, 0), (75, 1002, 0), (77, 1001, 0)], (20, 1000, 0, 0))
theorem zq_1054 {l : Launch} {w : zk_W} (hW : zh_W w) : zh_K l w zK_1054 := sorry
