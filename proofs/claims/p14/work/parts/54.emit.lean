/-! part 54: the parser: emit, push -/
noncomputable def zp_0 (ps : List Int) : Nat := (ps.getD 0 0).toNat
theorem zp_set_el {G : Nat → Nat → Int} {b n j : Nat} {v : Int} : zp_set G b (2000 + n) v b (2000 + j) = if j = n then v else G b (2000 + j) := by
  unfold zp_set
  by_cases h : j = n
  · rw [if_pos h, if_pos ⟨rfl, by omega⟩]
  · rw [if_neg h, if_neg (fun z => h (by omega))]
noncomputable def zK_em : zk_K := (zt_mn 227, prog_14_method_44_code, 3, (Option.none : Option Jvm.ClassFile.FieldType), 1, 12, [(2, 92, 0, 0), (0, 0, (-2147483648), 2147483647), (0, 0, (-2147483648), 2147483647)], [(none, [])], [(92, 23, 0), (68, 1001, 0), (69, 1001, 0)], (0, 0, 0, 0))
noncomputable def zK_pu : zk_K := (zt_mn 220, prog_14_method_45_code, 3, (Option.none : Option Jvm.ClassFile.FieldType), 1, 12, [(2, 92, 0, 0), (0, 0, (-2147483648), 2147483647), (0, 0, (-2147483648), 2147483647)], [(none, [])], [(92, 29, 0), (70, 1001, 0), (71, 1001, 0)], (0, 0, 0, 0))