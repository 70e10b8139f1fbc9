/-! part 59: the contracts of String.length, charAt -/
/-- J0_length_8abf5 -/
def zK_41 : zk_K := (zt_mn 47, prog_17_method_54_code, 1, (Option.some Jvm.ClassFile.FieldType.int), 1, 999, [(2, 209, 0, 0)], [(some (0, 0, 28, 28), [])], [], (8, 200, 0, 0))
theorem zq_41 {l : Launch} {w : zk_W} (hW : zh_W w) : zh_K l w zK_41 := sorry
/-- J0_charAt_5068e -/
def zK_42 : zk_K := (zt_mn 49, prog_17_method_56_code, 2, (Option.some Jvm.ClassFile.FieldType.char), 1, 999, [(2, 209, 0, 0), (0, 0, 0, 27)], [(some (0, 0, 0, 127), [])], [], (8, 200, 0, 0))
theorem zq_42 {l : Launch} {w : zk_W} (hW : zh_W w) : zh_K l w zK_42 := sorry
/-- J0_length_8abf5 -/
def zK_45 : zk_K := (zt_mn 47, prog_17_method_54_code, 1, (Option.some Jvm.ClassFile.FieldType.int), 1, 999, [(2, 205, 0, 0)], [(some (0, 0, 2, 2), [])], [], (8, 200, 0, 0))
theorem zq_45 {l : Launch} {w : zk_W} (hW : zh_W w) : zh_K l w zK_45 := sorry
/-- J0_charAt_5068e -/
def zK_46 : zk_K := (zt_mn 49, prog_17_method_56_code, 2, (Option.some Jvm.ClassFile.FieldType.char), 1, 999, [(2, 205, 0, 0), (0, 0, 0, 1)], [(some (0, 0, 0, 127), [])], [], (8, 200, 0, 0))
theorem zq_46 {l : Launch} {w : zk_W} (hW : zh_W w) : zh_K l w zK_46 := sorry
/-- J0_length_8abf5 -/
def zK_50 : zk_K := (zt_mn 47, prog_17_method_54_code, 1, (Option.some Jvm.ClassFile.FieldType.int), 1, 999, [(2, 206, 0, 0)], [(some (0, 0, 3, 3), [])], [], (8, 200, 0, 0))
theorem zq_50 {l : Launch} {w : zk_W} (hW : zh_W w) : zh_K l w zK_50 := sorry
/-- J0_charAt_5068e -/
def zK_51 : zk_K := (zt_mn 49, prog_17_method_56_code, 2, (Option.some Jvm.ClassFile.FieldType.char), 1, 999, [(2, 206, 0, 0), (0, 0, 0, 2)], [(some (0, 0, 0, 127), [])], [], (8, 200, 0, 0))
theorem zq_51 {l : Launch} {w : zk_W} (hW : zh_W w) : zh_K l w zK_51 := sorry
/-- J0_length_8abf5 -/
def zK_55 : zk_K := (zt_mn 47, prog_17_method_54_code, 1, (Option.some Jvm.ClassFile.FieldType.int), 1, 999, [(2, 202, 0, 0)], [(some (0, 0, 48, 48), [])], [], (8, 200, 0, 0))
theorem zq_55 {l : Launch} {w : zk_W} (hW : zh_W w) : zh_K l w zK_55 := sorry
/-- J0_charAt_5068e -/
def zK_56 : zk_K := (zt_mn 49, prog_17_method_56_code, 2, (Option.some Jvm.ClassFile.FieldType.char), 1, 999, [(2, 202, 0, 0), (0, 0, 0, 47)], [(some (0, 0, 0, 127), [])], [], (8, 200, 0, 0))
theorem zq_56 {l : Launch} {w : zk_W} (hW : zh_W w) : zh_K l w zK_56 := sorry
/-- J0_length_8abf5 -/
def zK_58 : zk_K := (zt_mn 47, prog_17_method_54_code, 1, (Option.some Jvm.ClassFile.FieldType.int), 1, 999, [(2, 201, 0, 0)], [(some (0, 0, 37, 37), [])], [], (8, 200, 0, 0))
theorem zq_58 {l : Launch} {w : zk_W} (hW : zh_W w) : zh_K l w zK_58 := sorry
/-- J0_charAt_5068e -/
def zK_59 : zk_K := (zt_mn 49, prog_17_method_56_code, 2, (Option.some Jvm.ClassFile.FieldType.char), 1, 999, [(2, 201, 0, 0), (0, 0, 0, 36)], [(some (0, 0, 0, 127), [])], [], (8, 200, 0, 0))
theorem zq_59 {l : Launch} {w : zk_W} (hW : zh_W w) : zh_K l w zK_59 := sorry
/-- J0_length_8abf5 -/
def zK_94 : zk_K := (zt_mn 47, prog_17_method_54_code, 1, (Option.some Jvm.ClassFile.FieldType.int), 1, 999, [(2, 207, 0, 0)], [(some (0, 0, 3, 3), [])], [], (8, 200, 0, 0))
theorem zq_94 {l : Launch} {w : zk_W} (hW : zh_W w) : zh_K l w zK_94 := sorry
/-- J0_charAt_5068e -/
def zK_95 : zk_K := (zt_mn 49, prog_17_method_56_code, 2, (Option.some Jvm.ClassFile.FieldType.char), 1, 999, [(2, 207, 0, 0), (0, 0, 0, 2)], [(some (0, 0, 0, 127), [])], [], (8, 200, 0, 0))
theorem zq_95 {l : Launch} {w : zk_W} (hW : zh_W w) : zh_K l w zK_95 := sorry
/-- J0_length_8abf5 -/
def zK_100 : zk_K := (zt_mn 47, prog_17_method_54_code, 1, (Option.some Jvm.ClassFile.FieldType.int), 1, 999, [(2, 208, 0, 0)], [(some (0, 0, 2, 2), [])], [], (8, 200, 0, 0))
theorem zq_100 {l : Launch} {w : zk_W} (hW : zh_W w) : zh_K l w zK_100 := sorry
/-- J0_charAt_5068e -/
def zK_101 : zk_K := (zt_mn 49, prog_17_method_56_code, 2, (Option.some Jvm.ClassFile.FieldType.char), 1, 999, [(2, 208, 0, 0), (0, 0, 0, 1)], [(some (0, 0, 0, 127), [])], [], (8, 200, 0, 0))
theorem zq_101 {l : Launch} {w : zk_W} (hW : zh_W w) : zh_K l w zK_101 := sorry
/-- J0_length_8abf5 -/
def zK_141 : zk_K := (zt_mn 47, prog_17_method_54_code, 1, (Option.some Jvm.ClassFile.FieldType.int), 1, 999, [(2, 200, 0, 0)], [(some (0, 0, 17, 17), [])], [], (8, 200, 0, 0))
theorem zq_141 {l : Launch} {w : zk_W} (hW : zh_W w) : zh_K l w zK_141 := sorry
/-- J0_charAt_5068e -/
def zK_142 : zk_K := (zt_mn 49, prog_17_method_56_code, 2, (Option.some Jvm.ClassFile.FieldType.char), 1, 999, [(2, 200, 0, 0), (0, 0, 0, 16)], [(some (0, 0, 0, 127), [])], [], (8, 200, 0, 0))
theorem zq_142 {l : Launch} {w : zk_W} (hW : zh_W w) : zh_K l w zK_142 := sorry
/-- J0_length_8abf5 -/
def zK_144 : zk_K := (zt_mn 47, prog_17_method_54_code, 1, (Option.some Jvm.ClassFile.FieldType.int), 1, 999, [(2, 204, 0, 0)], [(some (0, 0, 5, 5), [])], [], (8, 200, 0, 0))
theorem zq_144 {l : Launch} {w : zk_W} (hW : zh_W w) : zh_K l w zK_144 := sorry
/-- J0_charAt_5068e -/
def zK_145 : zk_K := (zt_mn 49, prog_17_method_56_code, 2, (Option.some Jvm.ClassFile.FieldType.char), 1, 999, [(2, 204, 0, 0), (0, 0, 0, 4)], [(some (0, 0, 0, 127), [])], [], (8, 200, 0, 0))
theorem zq_145 {l : Launch} {w : zk_W} (hW : zh_W w) : zh_K l w zK_145 := sorry
/-- J0_length_8abf5 -/
def zK_150 : zk_K := (zt_mn 47, prog_17_method_54_code, 1, (Option.some Jvm.ClassFile.FieldType.int), 1, 999, [(2, 203, 0, 0)], [(some (0, 0, 2, 2), [])], [], (8, 200, 0, 0))
theorem zq_150 {l : Launch} {w : zk_W} (hW : zh_W w) : zh_K l w zK_150 := sorry
/-- J0_charAt_5068e -/
def zK_151 : zk_K := (zt_mn 49, prog_17_method_56_code, 2, (Option.some Jvm.ClassFile.FieldType.char), 1, 999, [(2, 203, 0, 0), (0, 0, 0, 1)], [(some (0, 0, 0, 127), [])], [], (8, 200, 0, 0))
theorem zq_151 {l : Launch} {w : zk_W} (hW : zh_W w) : zh_K l w zK_151 := sorry
