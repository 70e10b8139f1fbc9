/-! part 35: tells, by hand between segments -/
/-- X12_tells -/
noncomputable def zK_1054 : zk_K := (zt_mn 240, prog_14_method_67_code, 8, (Option.some Jvm.ClassFile.FieldType.long), 1, 12, [(2, 13, 0, 0), (0, 0, (-2147483648), 2147483647), (1, 0, (-9223372036854775808), 9223372036854775807)], [(some (1, 0, (-9223372036854775808), 9223372036854775807), [])], [(13, 34, 0), (13, 40, 0), (13, 38, 0), (13, 39, 0), (75, 1002, 0), (77, 1001, 0)], (20, 1000, 0, 0))
noncomputable def zu_ns : List (Nat × Nat × List (Nat × Int × Nat)) := [(5, 7, []), (24, 7, []), (42, 7, []), (44, 7, []), (56, 7, []), (69, 7, []), (71, 7, []), (90, 7, []), (114, 7, [])]
noncomputable def zu_CL : List zk_Ci := zc_X12_tells.map (zq_note zu_ns)
noncomputable def zu_E : zk_Ev := (zt_types, [(2, 13, 12, 3, 18), (2, 391, 12, 34, 0), (2, 101, 12, 35, 18), (2, 408, 12, 40, 1)], zt_dv, [zK_1117], [241], [(0, 411, 241), (0, 414, 242)], zK_1054)
noncomputable def zu_eff : List (Nat × Nat × Nat) := [(13, 34, 0), (13, 40, 0), (13, 38, 0), (13, 39, 0), (75, 1002, 0), (77, 1001, 0)]
theorem zu_eok : ∀ e ∈ zu_eff, e ∈ zu_eff ∧ e.2.2 = 0 := by decide
theorem zu_hCL : ∀ q ∈ zu_CL, decode prog_14_method_67_code q.1 = .ok (q.2.1, q.2.2.1) := zq_note_ok zd_X12_tells zu_ns
noncomputable def zu_H (i v : Nat) : zk_C := ([(0, 0, 0, 0), (1, 0, 0, 0), (2, 0, (-1), (-1)), (2, 13, 0, 0), (0, 0, (-2147483648), 2147483647), (1, 0, (-9223372036854775808), 9223372036854775807), (2, 59, 0, 0), (0, 0, (180 + 900 * i), (180 + 900 * i)), (0, 0, (v), (v))], [], [(3, 3, (6, 0)), (3, 34, (7, 0))], [], [(0, (3, 0)), (1, (4, 0)), (4, (5, 0)), (6, (8, 0))], [], [])
noncomputable def zu_HA (i v : Nat) : zk_An := (78, zu_H i v, [], 0, 0, (0, []))
noncomputable def zu_A10 : zk_An := (10, ([(0, 0, 0, 0), (1, 0, 0, 0), (2, 0, (-1), (-1)), (2, 13, 0, 0), (1, 0, (-9223372036854775808), 9223372036854775807), (2, 59, 0, 0), (0, 0, (-1), (-1))], [], [(3, 3, (5, 0)), (5, 2004, (6, 0))], [], [(0, (3, 0)), (2, (4, 0))], [], []), [], 0, 0, (0, []))
noncomputable def zu_A12 : zk_An := (12, ([(0, 0, 0, 0), (1, 0, 0, 0), (2, 0, (-1), (-1)), (2, 13, 0, 0), (0, 0, (-2147483648), 2147483647), (1, 0, (-9223372036854775808), 9223372036854775807), (2, 59, 0, 0), (0, 0, 0, 5)], [], [(3, 3, (6, 0)), (6, 2004, (7, 0))], [], [(0, (3, 0)), (1, (4, 0)), (2, (5, 0))], [], []), [], 0, 0, (0, []))
noncomputable def zu_K12 (i : Nat) : zk_C := ([(0, 0, 0, 0), (1, 0, 0, 0), (2, 0, (-1), (-1)), (2, 13, 0, 0), (0, 0, (-2147483648), 2147483647), (1, 0, (-9223372036854775808), 9223372036854775807), (2, 59, 0, 0), (0, 0, (i), (i))], [], [(3, 3, (6, 0)), (6, 2004, (7, 0))], [], [(0, (3, 0)), (1, (4, 0)), (2, (5, 0))], [], [])
noncomputable def zu_I (i : Nat) : zk_An := (78, ([(0, 0, 0, 0), (1, 0, 0, 0), (2, 0, (-1), (-1)), (1, 0, (-9223372036854775808), 9223372036854775807), (2, 13, 0, 0), (0, 0, (-2147483648), 2147483647), (2, 75, 0, 0), (0, 0, (180 + 900 * i), (180 + 900 * i)), (2, 59, 0, 0), (1, 0, (-2147483648), 2147483647), (1, 0, (-2147483648), 2147483647), (1, 0, 0, 9999), (0, 0, (-2147483648), 2147483647), (0, 0, 0, 9999), (0, 0, (i), (i))], [], [(4, 35, (6, 0)), (4, 34, (7, 0)), (4, 3, (8, 0)), (6, 2009, (9, 0)), (6, 2008, (10, 0)), (6, 2007, (11, 0)), (8, 2007, (12, 0)), (8, 2008, (13, 0)), (8, 2004, (14, 0))], [], [(6, (0, 0)), (4, (3, 0)), (0, (4, 0)), (1, (5, 0))], [], []), [], 0, 0, (0, []))
noncomputable def zu_A (i v : Nat) : zk_An := (78, ([(0, 0, 0, 0), (1, 0, 0, 0), (2, 0, (-1), (-1)), (0, 0, (1 + v), (1 + v)), (2, 13, 0, 0), (0, 0, (-2147483648), 2147483647), (1, 0, (-9223372036854775808), 9223372036854775807), (2, 59, 0, 0), (0, 0, (180 + 900 * i), (180 + 900 * i)), (0, 0, (-2147483648), 2147483647), (0, 0, (1 + v), 12)], [], [(4, 3, (7, 0)), (4, 34, (8, 0)), (7, (2182 + 900 * i + 8 * v), (9, 0)), (7, (2181 + 900 * i), (10, 0))], [], [(6, (3, 0)), (0, (4, 0)), (1, (5, 0)), (4, (6, 0))], [], []), [], 0, 0, (0, []))
noncomputable def zu_B (i v : Nat) : zk_An := (122, ([(0, 0, 0, 0), (1, 0, 0, 0), (2, 0, (-1), (-1)), (2, 13, 0, 0), (0, 0, (-2147483648), 2147483647), (1, 0, (-9223372036854775808), 9223372036854775807), (0, 0, (v), (v)), (0, 0, (182 + 900 * i + 8 * v), (182 + 900 * i + 8 * v)), (2, 59, 0, 0), (0, 0, (-2147483648), 2147483647), (0, 0, (1 + v), 12)], [(4, 9, 0), (9, 4, 0)], [(3, 3, (8, 0)), (3, 34, (7, ((-2) + (-8) * v))), (8, (2182 + 900 * i + 8 * v), (9, 0)), (8, (2181 + 900 * i), (10, 0))], [], [(0, (3, 0)), (1, (4, 0)), (4, (5, 0)), (6, (6, 0))], [], []), [(7, 0), (3, 0)], 0, 0, (0, []))
noncomputable def zu_T (i v : Nat) : zk_An := (149, ([(0, 0, 0, 0), (1, 0, 0, 0), (2, 0, (-1), (-1)), (2, 13, 0, 0), (1, 0, (-9223372036854775808), 9223372036854775807), (2, 59, 0, 0), (0, 0, (180 + 900 * i), (180 + 900 * i)), (0, 0, 0, (v))], [], [(3, 3, (5, 0)), (3, 34, (6, 0)), (5, (2181 + 900 * i), (7, 0))], [], [(0, (3, 0)), (4, (4, 0))], [], []), [], 0, 0, (0, []))
noncomputable def zu_F (i v : Nat) : zk_An := (78, ([(0, 0, 0, 0), (1, 0, 0, 0), (2, 0, (-1), (-1)), (0, 0, (1 + v), (1 + v)), (2, 13, 0, 0), (0, 0, (-2147483648), 2147483647), (1, 0, (-9223372036854775808), 9223372036854775807), (2, 59, 0, 0), (0, 0, (180 + 900 * i), (180 + 900 * i)), (0, 0, (-2147483648), 2147483647), (0, 0, (1 + v), 12)], [(5, 9, 0), (9, 5, 0)], [(4, 3, (7, 0)), (4, 34, (8, 0)), (7, (2182 + 900 * i + 8 * v), (9, 0)), (7, (2181 + 900 * i), (10, 0))], [], [(6, (3, 0)), (0, (4, 0)), (1, (5, 0)), (4, (6, 0))], [], []), [], 0, 0, (0, []))
noncomputable def zu_O (i v : Nat) : zk_O := (125, ([(0, 0, 0, 0), (1, 0, 0, 0), (2, 0, (-1), (-1)), (2, 13, 0, 0), (0, 0, (-2147483648), 2147483647), (1, 0, (-9223372036854775808), 9223372036854775807), (0, 0, (v), (v)), (0, 0, (182 + 900 * i + 8 * v), (182 + 900 * i + 8 * v)), (2, 59, 0, 0), (0, 0, (-2147483648), 2147483647), (0, 0, (1 + v), 12), (0, 0, 0, 1)], [(4, 9, 0), (9, 4, 0)], [(3, 3, (8, 0)), (3, 34, (7, ((-2) + (-8) * v))), (8, (2182 + 900 * i + 8 * v), (9, 0)), (8, (2181 + 900 * i), (10, 0))], [], [(0, (3, 0)), (1, (4, 0)), (4, (5, 0)), (6, (6, 0))], [], []), [(11, 0)], 0, 0)
theorem zu_gA : zk_go (zh_Es zu_E [] zu_eff) zu_CL [zu_A10, zu_A12] none 400 0 ((zk_k0 zu_E).1, (zk_k0 zu_E).2.1, (zk_k0 zu_E).2.2.1, (zk_k0 zu_E).2.2.2.1, (zk_k0 zu_E).2.2.2.2.1, [], []) [] 0 0 = true := by decide +kernel
theorem zu_tA : zk_go zu_E zu_CL [] none 400 10 (zu_A10.2.1.1, zu_A10.2.1.2.1, zu_A10.2.1.2.2.1, zu_A10.2.1.2.2.2.1, zu_A10.2.1.2.2.2.2.1, [], []) [] 0 0 = true := by decide +kernel
theorem zu_g12_0 : (List.range 6).all (fun i => zk_go (zh_Es zu_E [] zu_eff) zu_CL [zu_I i] none 400 12 ((zu_K12 i).1, (zu_K12 i).2.1, (zu_K12 i).2.2.1, (zu_K12 i).2.2.2.1, (zu_K12 i).2.2.2.2.1, [], []) [] 0 0) = true := by decide +kernel
theorem zu_g12 {i : Nat} (hi : i < 6) : (zk_go (zh_Es zu_E [] zu_eff) zu_CL [zu_I i] none 400 12 ((zu_K12 i).1, (zu_K12 i).2.1, (zu_K12 i).2.2.1, (zu_K12 i).2.2.2.1, (zu_K12 i).2.2.2.2.1, [], []) [] 0 0) = true := List.all_eq_true.mp zu_g12_0 i (List.mem_range.mpr hi)
theorem zu_f0_0 : (List.range 6).all (fun i => zk_mt ((zu_I i).2.1.1, (zu_I i).2.1.2.1, (zu_I i).2.1.2.2.1, (zu_I i).2.1.2.2.2.1, (zu_I i).2.1.2.2.2.2.1, [], []) [] 0 0 (zu_HA i 0) [(0, 0), (1, 0), (2, 0), (4, 0), (5, 0), (3, 0), (8, 0), (7, 0), (0, 0)]) = true := by decide +kernel
theorem zu_f0 {i : Nat} (hi : i < 6) : (zk_mt ((zu_I i).2.1.1, (zu_I i).2.1.2.1, (zu_I i).2.1.2.2.1, (zu_I i).2.1.2.2.2.1, (zu_I i).2.1.2.2.2.2.1, [], []) [] 0 0 (zu_HA i 0) [(0, 0), (1, 0), (2, 0), (4, 0), (5, 0), (3, 0), (8, 0), (7, 0), (0, 0)]) = true := List.all_eq_true.mp zu_f0_0 i (List.mem_range.mpr hi)
theorem zu_g1_0 : (List.range 12).all (fun v => zk_go (zh_Es zu_E [] zu_eff) zu_CL [zu_A 0 v, zu_B 0 v, zu_T 0 v] none 400 78 ((zu_H 0 v).1, (zu_H 0 v).2.1, (zu_H 0 v).2.2.1, (zu_H 0 v).2.2.2.1, (zu_H 0 v).2.2.2.2.1, [], []) [] 0 0) = true := by decide +kernel
theorem zu_g1_1 : (List.range 12).all (fun v => zk_go (zh_Es zu_E [] zu_eff) zu_CL [zu_A 1 v, zu_B 1 v, zu_T 1 v] none 400 78 ((zu_H 1 v).1, (zu_H 1 v).2.1, (zu_H 1 v).2.2.1, (zu_H 1 v).2.2.2.1, (zu_H 1 v).2.2.2.2.1, [], []) [] 0 0) = true := by decide +kernel
theorem zu_g1_2 : (List.range 12).all (fun v => zk_go (zh_Es zu_E [] zu_eff) zu_CL [zu_A 2 v, zu_B 2 v, zu_T 2 v] none 400 78 ((zu_H 2 v).1, (zu_H 2 v).2.1, (zu_H 2 v).2.2.1, (zu_H 2 v).2.2.2.1, (zu_H 2 v).2.2.2.2.1, [], []) [] 0 0) = true := by decide +kernel
theorem zu_g1_3 : (List.range 12).all (fun v => zk_go (zh_Es zu_E [] zu_eff) zu_CL [zu_A 3 v, zu_B 3 v, zu_T 3 v] none 400 78 ((zu_H 3 v).1, (zu_H 3 v).2.1, (zu_H 3 v).2.2.1, (zu_H 3 v).2.2.2.1, (zu_H 3 v).2.2.2.2.1, [], []) [] 0 0) = true := by decide +kernel
theorem zu_g1_4 : (List.range 12).all (fun v => zk_go (zh_Es zu_E [] zu_eff) zu_CL [zu_A 4 v, zu_B 4 v, zu_T 4 v] none 400 78 ((zu_H 4 v).1, (zu_H 4 v).2.1, (zu_H 4 v).2.2.1, (zu_H 4 v).2.2.2.1, (zu_H 4 v).2.2.2.2.1, [], []) [] 0 0) = true := by decide +kernel
theorem zu_g1_5 : (List.range 12).all (fun v => zk_go (zh_Es zu_E [] zu_eff) zu_CL [zu_A 5 v, zu_B 5 v, zu_T 5 v] none 400 78 ((zu_H 5 v).1, (zu_H 5 v).2.1, (zu_H 5 v).2.2.1, (zu_H 5 v).2.2.2.1, (zu_H 5 v).2.2.2.2.1, [], []) [] 0 0) = true := by decide +kernel
theorem zu_g1 {i v : Nat} (hi : i < 6) (hv : v < 12) : (zk_go (zh_Es zu_E [] zu_eff) zu_CL [zu_A i v, zu_B i v, zu_T i v] none 400 78 ((zu_H i v).1, (zu_H i v).2.1, (zu_H i v).2.2.1, (zu_H i v).2.2.2.1, (zu_H i v).2.2.2.2.1, [], []) [] 0 0) = true :=
  match i, hi with
  | 0, _ => List.all_eq_true.mp zu_g1_0 v (List.mem_range.mpr hv)
  | 1, _ => List.all_eq_true.mp zu_g1_1 v (List.mem_range.mpr hv)
  | 2, _ => List.all_eq_true.mp zu_g1_2 v (List.mem_range.mpr hv)
  | 3, _ => List.all_eq_true.mp zu_g1_3 v (List.mem_range.mpr hv)
  | 4, _ => List.all_eq_true.mp zu_g1_4 v (List.mem_range.mpr hv)
  | 5, _ => List.all_eq_true.mp zu_g1_5 v (List.mem_range.mpr hv)
  | k + 6, h => absurd h (by omega)
theorem zu_g2_0 : (List.range 6).all (fun i => zk_go (zh_Es zu_E [] zu_eff) zu_CL [zu_T i 12] none 400 78 ((zu_H i 12).1, (zu_H i 12).2.1, (zu_H i 12).2.2.1, (zu_H i 12).2.2.2.1, (zu_H i 12).2.2.2.2.1, [], []) [] 0 0) = true := by decide +kernel
theorem zu_g2 {i : Nat} (hi : i < 6) : (zk_go (zh_Es zu_E [] zu_eff) zu_CL [zu_T i 12] none 400 78 ((zu_H i 12).1, (zu_H i 12).2.1, (zu_H i 12).2.2.1, (zu_H i 12).2.2.2.1, (zu_H i 12).2.2.2.2.1, [], []) [] 0 0) = true := List.all_eq_true.mp zu_g2_0 i (List.mem_range.mpr hi)
theorem zu_f1_0 : (List.range 12).all (fun v => zk_mt ((zu_A 0 v).2.1.1, (zu_A 0 v).2.1.2.1, (zu_A 0 v).2.1.2.2.1, (zu_A 0 v).2.1.2.2.2.1, (zu_A 0 v).2.1.2.2.2.2.1, [], []) [] 0 0 (zu_HA 0 (v + 1)) [(0, 0), (1, 0), (2, 0), (4, 0), (5, 0), (6, 0), (7, 0), (8, 0), (3, 0)]) = true := by decide +kernel
theorem zu_f1_1 : (List.range 12).all (fun v => zk_mt ((zu_A 1 v).2.1.1, (zu_A 1 v).2.1.2.1, (zu_A 1 v).2.1.2.2.1, (zu_A 1 v).2.1.2.2.2.1, (zu_A 1 v).2.1.2.2.2.2.1, [], []) [] 0 0 (zu_HA 1 (v + 1)) [(0, 0), (1, 0), (2, 0), (4, 0), (5, 0), (6, 0), (7, 0), (8, 0), (3, 0)]) = true := by decide +kernel
theorem zu_f1_2 : (List.range 12).all (fun v => zk_mt ((zu_A 2 v).2.1.1, (zu_A 2 v).2.1.2.1, (zu_A 2 v).2.1.2.2.1, (zu_A 2 v).2.1.2.2.2.1, (zu_A 2 v).2.1.2.2.2.2.1, [], []) [] 0 0 (zu_HA 2 (v + 1)) [(0, 0), (1, 0), (2, 0), (4, 0), (5, 0), (6, 0), (7, 0), (8, 0), (3, 0)]) = true := by decide +kernel
theorem zu_f1_3 : (List.range 12).all (fun v => zk_mt ((zu_A 3 v).2.1.1, (zu_A 3 v).2.1.2.1, (zu_A 3 v).2.1.2.2.1, (zu_A 3 v).2.1.2.2.2.1, (zu_A 3 v).2.1.2.2.2.2.1, [], []) [] 0 0 (zu_HA 3 (v + 1)) [(0, 0), (1, 0), (2, 0), (4, 0), (5, 0), (6, 0), (7, 0), (8, 0), (3, 0)]) = true := by decide +kernel
theorem zu_f1_4 : (List.range 12).all (fun v => zk_mt ((zu_A 4 v).2.1.1, (zu_A 4 v).2.1.2.1, (zu_A 4 v).2.1.2.2.1, (zu_A 4 v).2.1.2.2.2.1, (zu_A 4 v).2.1.2.2.2.2.1, [], []) [] 0 0 (zu_HA 4 (v + 1)) [(0, 0), (1, 0), (2, 0), (4, 0), (5, 0), (6, 0), (7, 0), (8, 0), (3, 0)]) = true := by decide +kernel
theorem zu_f1_5 : (List.range 12).all (fun v => zk_mt ((zu_A 5 v).2.1.1, (zu_A 5 v).2.1.2.1, (zu_A 5 v).2.1.2.2.1, (zu_A 5 v).2.1.2.2.2.1, (zu_A 5 v).2.1.2.2.2.2.1, [], []) [] 0 0 (zu_HA 5 (v + 1)) [(0, 0), (1, 0), (2, 0), (4, 0), (5, 0), (6, 0), (7, 0), (8, 0), (3, 0)]) = true := by decide +kernel
theorem zu_f1 {i v : Nat} (hi : i < 6) (hv : v < 12) : (zk_mt ((zu_A i v).2.1.1, (zu_A i v).2.1.2.1, (zu_A i v).2.1.2.2.1, (zu_A i v).2.1.2.2.2.1, (zu_A i v).2.1.2.2.2.2.1, [], []) [] 0 0 (zu_HA i (v + 1)) [(0, 0), (1, 0), (2, 0), (4, 0), (5, 0), (6, 0), (7, 0), (8, 0), (3, 0)]) = true :=
  match i, hi with
  | 0, _ => List.all_eq_true.mp zu_f1_0 v (List.mem_range.mpr hv)
  | 1, _ => List.all_eq_true.mp zu_f1_1 v (List.mem_range.mpr hv)
  | 2, _ => List.all_eq_true.mp zu_f1_2 v (List.mem_range.mpr hv)
  | 3, _ => List.all_eq_true.mp zu_f1_3 v (List.mem_range.mpr hv)
  | 4, _ => List.all_eq_true.mp zu_f1_4 v (List.mem_range.mpr hv)
  | 5, _ => List.all_eq_true.mp zu_f1_5 v (List.mem_range.mpr hv)
  | k + 6, h => absurd h (by omega)
theorem zu_f2_0 : (List.range 12).all (fun v => zk_mt ((zu_F 0 v).2.1.1, (zu_F 0 v).2.1.2.1, (zu_F 0 v).2.1.2.2.1, (zu_F 0 v).2.1.2.2.2.1, (zu_F 0 v).2.1.2.2.2.2.1, [], []) [] 0 0 (zu_HA 0 (v + 1)) [(0, 0), (1, 0), (2, 0), (4, 0), (5, 0), (6, 0), (7, 0), (8, 0), (3, 0)]) = true := by decide +kernel
theorem zu_f2_1 : (List.range 12).all (fun v => zk_mt ((zu_F 1 v).2.1.1, (zu_F 1 v).2.1.2.1, (zu_F 1 v).2.1.2.2.1, (zu_F 1 v).2.1.2.2.2.1, (zu_F 1 v).2.1.2.2.2.2.1, [], []) [] 0 0 (zu_HA 1 (v + 1)) [(0, 0), (1, 0), (2, 0), (4, 0), (5, 0), (6, 0), (7, 0), (8, 0), (3, 0)]) = true := by decide +kernel
theorem zu_f2_2 : (List.range 12).all (fun v => zk_mt ((zu_F 2 v).2.1.1, (zu_F 2 v).2.1.2.1, (zu_F 2 v).2.1.2.2.1, (zu_F 2 v).2.1.2.2.2.1, (zu_F 2 v).2.1.2.2.2.2.1, [], []) [] 0 0 (zu_HA 2 (v + 1)) [(0, 0), (1, 0), (2, 0), (4, 0), (5, 0), (6, 0), (7, 0), (8, 0), (3, 0)]) = true := by decide +kernel
theorem zu_f2_3 : (List.range 12).all (fun v => zk_mt ((zu_F 3 v).2.1.1, (zu_F 3 v).2.1.2.1, (zu_F 3 v).2.1.2.2.1, (zu_F 3 v).2.1.2.2.2.1, (zu_F 3 v).2.1.2.2.2.2.1, [], []) [] 0 0 (zu_HA 3 (v + 1)) [(0, 0), (1, 0), (2, 0), (4, 0), (5, 0), (6, 0), (7, 0), (8, 0), (3, 0)]) = true := by decide +kernel
theorem zu_f2_4 : (List.range 12).all (fun v => zk_mt ((zu_F 4 v).2.1.1, (zu_F 4 v).2.1.2.1, (zu_F 4 v).2.1.2.2.1, (zu_F 4 v).2.1.2.2.2.1, (zu_F 4 v).2.1.2.2.2.2.1, [], []) [] 0 0 (zu_HA 4 (v + 1)) [(0, 0), (1, 0), (2, 0), (4, 0), (5, 0), (6, 0), (7, 0), (8, 0), (3, 0)]) = true := by decide +kernel
theorem zu_f2_5 : (List.range 12).all (fun v => zk_mt ((zu_F 5 v).2.1.1, (zu_F 5 v).2.1.2.1, (zu_F 5 v).2.1.2.2.1, (zu_F 5 v).2.1.2.2.2.1, (zu_F 5 v).2.1.2.2.2.2.1, [], []) [] 0 0 (zu_HA 5 (v + 1)) [(0, 0), (1, 0), (2, 0), (4, 0), (5, 0), (6, 0), (7, 0), (8, 0), (3, 0)]) = true := by decide +kernel
theorem zu_f2 {i v : Nat} (hi : i < 6) (hv : v < 12) : (zk_mt ((zu_F i v).2.1.1, (zu_F i v).2.1.2.1, (zu_F i v).2.1.2.2.1, (zu_F i v).2.1.2.2.2.1, (zu_F i v).2.1.2.2.2.2.1, [], []) [] 0 0 (zu_HA i (v + 1)) [(0, 0), (1, 0), (2, 0), (4, 0), (5, 0), (6, 0), (7, 0), (8, 0), (3, 0)]) = true :=
  match i, hi with
  | 0, _ => List.all_eq_true.mp zu_f2_0 v (List.mem_range.mpr hv)
  | 1, _ => List.all_eq_true.mp zu_f2_1 v (List.mem_range.mpr hv)
  | 2, _ => List.all_eq_true.mp zu_f2_2 v (List.mem_range.mpr hv)
  | 3, _ => List.all_eq_true.mp zu_f2_3 v (List.mem_range.mpr hv)
  | 4, _ => List.all_eq_true.mp zu_f2_4 v (List.mem_range.mpr hv)
  | 5, _ => List.all_eq_true.mp zu_f2_5 v (List.mem_range.mpr hv)
  | k + 6, h => absurd h (by omega)
theorem zu_t1_0 : (List.range 12).all (fun v => zk_go zu_E zu_CL [] none 400 149 ((zu_T 0 v).2.1.1, (zu_T 0 v).2.1.2.1, (zu_T 0 v).2.1.2.2.1, (zu_T 0 v).2.1.2.2.2.1, (zu_T 0 v).2.1.2.2.2.2.1, [], []) [] 0 0) = true := by decide +kernel
theorem zu_t1_1 : (List.range 12).all (fun v => zk_go zu_E zu_CL [] none 400 149 ((zu_T 1 v).2.1.1, (zu_T 1 v).2.1.2.1, (zu_T 1 v).2.1.2.2.1, (zu_T 1 v).2.1.2.2.2.1, (zu_T 1 v).2.1.2.2.2.2.1, [], []) [] 0 0) = true := by decide +kernel
theorem zu_t1_2 : (List.range 12).all (fun v => zk_go zu_E zu_CL [] none 400 149 ((zu_T 2 v).2.1.1, (zu_T 2 v).2.1.2.1, (zu_T 2 v).2.1.2.2.1, (zu_T 2 v).2.1.2.2.2.1, (zu_T 2 v).2.1.2.2.2.2.1, [], []) [] 0 0) = true := by decide +kernel
theorem zu_t1_3 : (List.range 12).all (fun v => zk_go zu_E zu_CL [] none 400 149 ((zu_T 3 v).2.1.1, (zu_T 3 v).2.1.2.1, (zu_T 3 v).2.1.2.2.1, (zu_T 3 v).2.1.2.2.2.1, (zu_T 3 v).2.1.2.2.2.2.1, [], []) [] 0 0) = true := by decide +kernel
theorem zu_t1_4 : (List.range 12).all (fun v => zk_go zu_E zu_CL [] none 400 149 ((zu_T 4 v).2.1.1, (zu_T 4 v).2.1.2.1, (zu_T 4 v).2.1.2.2.1, (zu_T 4 v).2.1.2.2.2.1, (zu_T 4 v).2.1.2.2.2.2.1, [], []) [] 0 0) = true := by decide +kernel
theorem zu_t1_5 : (List.range 12).all (fun v => zk_go zu_E zu_CL [] none 400 149 ((zu_T 5 v).2.1.1, (zu_T 5 v).2.1.2.1, (zu_T 5 v).2.1.2.2.1, (zu_T 5 v).2.1.2.2.2.1, (zu_T 5 v).2.1.2.2.2.2.1, [], []) [] 0 0) = true := by decide +kernel
theorem zu_t1 {i v : Nat} (hi : i < 6) (hv : v < 12) : (zk_go zu_E zu_CL [] none 400 149 ((zu_T i v).2.1.1, (zu_T i v).2.1.2.1, (zu_T i v).2.1.2.2.1, (zu_T i v).2.1.2.2.2.1, (zu_T i v).2.1.2.2.2.2.1, [], []) [] 0 0) = true :=
  match i, hi with
  | 0, _ => List.all_eq_true.mp zu_t1_0 v (List.mem_range.mpr hv)
  | 1, _ => List.all_eq_true.mp zu_t1_1 v (List.mem_range.mpr hv)
  | 2, _ => List.all_eq_true.mp zu_t1_2 v (List.mem_range.mpr hv)
  | 3, _ => List.all_eq_true.mp zu_t1_3 v (List.mem_range.mpr hv)
  | 4, _ => List.all_eq_true.mp zu_t1_4 v (List.mem_range.mpr hv)
  | 5, _ => List.all_eq_true.mp zu_t1_5 v (List.mem_range.mpr hv)
  | k + 6, h => absurd h (by omega)
theorem zu_t2_0 : (List.range 6).all (fun i => zk_go zu_E zu_CL [] none 400 149 ((zu_T i 12).2.1.1, (zu_T i 12).2.1.2.1, (zu_T i 12).2.1.2.2.1, (zu_T i 12).2.1.2.2.2.1, (zu_T i 12).2.1.2.2.2.2.1, [], []) [] 0 0) = true := by decide +kernel
theorem zu_t2 {i : Nat} (hi : i < 6) : (zk_go zu_E zu_CL [] none 400 149 ((zu_T i 12).2.1.1, (zu_T i 12).2.1.2.1, (zu_T i 12).2.1.2.2.1, (zu_T i 12).2.1.2.2.2.1, (zu_T i 12).2.1.2.2.2.2.1, [], []) [] 0 0) = true := List.all_eq_true.mp zu_t2_0 i (List.mem_range.mpr hi)
theorem zu_c_0 : (List.range 12).all (fun v => @decide _ (zh_dL (zk_s7 zu_E.1 zu_E.2.2.1 [zK_is] [242] zu_E.2.2.2.2.2.1 zu_eff (zk_Kr (zk_ev zu_E)) 0 (.invokevirtual 414) 3 122 ((zu_B 0 v).2.1.1, (zu_B 0 v).2.1.2.1, (zu_B 0 v).2.1.2.2.1, (zu_B 0 v).2.1.2.2.2.1, (zu_B 0 v).2.1.2.2.2.2.1, [], []) (zu_B 0 v).2.2.1 0 0) (some [zu_O 0 v]))) = true := by decide +kernel
theorem zu_c_1 : (List.range 12).all (fun v => @decide _ (zh_dL (zk_s7 zu_E.1 zu_E.2.2.1 [zK_is] [242] zu_E.2.2.2.2.2.1 zu_eff (zk_Kr (zk_ev zu_E)) 0 (.invokevirtual 414) 3 122 ((zu_B 1 v).2.1.1, (zu_B 1 v).2.1.2.1, (zu_B 1 v).2.1.2.2.1, (zu_B 1 v).2.1.2.2.2.1, (zu_B 1 v).2.1.2.2.2.2.1, [], []) (zu_B 1 v).2.2.1 0 0) (some [zu_O 1 v]))) = true := by decide +kernel
theorem zu_c_2 : (List.range 12).all (fun v => @decide _ (zh_dL (zk_s7 zu_E.1 zu_E.2.2.1 [zK_is] [242] zu_E.2.2.2.2.2.1 zu_eff (zk_Kr (zk_ev zu_E)) 0 (.invokevirtual 414) 3 122 ((zu_B 2 v).2.1.1, (zu_B 2 v).2.1.2.1, (zu_B 2 v).2.1.2.2.1, (zu_B 2 v).2.1.2.2.2.1, (zu_B 2 v).2.1.2.2.2.2.1, [], []) (zu_B 2 v).2.2.1 0 0) (some [zu_O 2 v]))) = true := by decide +kernel
theorem zu_c_3 : (List.range 12).all (fun v => @decide _ (zh_dL (zk_s7 zu_E.1 zu_E.2.2.1 [zK_is] [242] zu_E.2.2.2.2.2.1 zu_eff (zk_Kr (zk_ev zu_E)) 0 (.invokevirtual 414) 3 122 ((zu_B 3 v).2.1.1, (zu_B 3 v).2.1.2.1, (zu_B 3 v).2.1.2.2.1, (zu_B 3 v).2.1.2.2.2.1, (zu_B 3 v).2.1.2.2.2.2.1, [], []) (zu_B 3 v).2.2.1 0 0) (some [zu_O 3 v]))) = true := by decide +kernel
theorem zu_c_4 : (List.range 12).all (fun v => @decide _ (zh_dL (zk_s7 zu_E.1 zu_E.2.2.1 [zK_is] [242] zu_E.2.2.2.2.2.1 zu_eff (zk_Kr (zk_ev zu_E)) 0 (.invokevirtual 414) 3 122 ((zu_B 4 v).2.1.1, (zu_B 4 v).2.1.2.1, (zu_B 4 v).2.1.2.2.1, (zu_B 4 v).2.1.2.2.2.1, (zu_B 4 v).2.1.2.2.2.2.1, [], []) (zu_B 4 v).2.2.1 0 0) (some [zu_O 4 v]))) = true := by decide +kernel
theorem zu_c_5 : (List.range 12).all (fun v => @decide _ (zh_dL (zk_s7 zu_E.1 zu_E.2.2.1 [zK_is] [242] zu_E.2.2.2.2.2.1 zu_eff (zk_Kr (zk_ev zu_E)) 0 (.invokevirtual 414) 3 122 ((zu_B 5 v).2.1.1, (zu_B 5 v).2.1.2.1, (zu_B 5 v).2.1.2.2.1, (zu_B 5 v).2.1.2.2.2.1, (zu_B 5 v).2.1.2.2.2.2.1, [], []) (zu_B 5 v).2.2.1 0 0) (some [zu_O 5 v]))) = true := by decide +kernel
theorem zu_c {i v : Nat} (hi : i < 6) (hv : v < 12) : (@decide _ (zh_dL (zk_s7 zu_E.1 zu_E.2.2.1 [zK_is] [242] zu_E.2.2.2.2.2.1 zu_eff (zk_Kr (zk_ev zu_E)) 0 (.invokevirtual 414) 3 122 ((zu_B i v).2.1.1, (zu_B i v).2.1.2.1, (zu_B i v).2.1.2.2.1, (zu_B i v).2.1.2.2.2.1, (zu_B i v).2.1.2.2.2.2.1, [], []) (zu_B i v).2.2.1 0 0) (some [zu_O i v]))) = true :=
  match i, hi with
  | 0, _ => List.all_eq_true.mp zu_c_0 v (List.mem_range.mpr hv)
  | 1, _ => List.all_eq_true.mp zu_c_1 v (List.mem_range.mpr hv)
  | 2, _ => List.all_eq_true.mp zu_c_2 v (List.mem_range.mpr hv)
  | 3, _ => List.all_eq_true.mp zu_c_3 v (List.mem_range.mpr hv)
  | 4, _ => List.all_eq_true.mp zu_c_4 v (List.mem_range.mpr hv)
  | 5, _ => List.all_eq_true.mp zu_c_5 v (List.mem_range.mpr hv)
  | k + 6, h => absurd h (by omega)
theorem zu_g3_0 : (List.range 12).all (fun v => zk_go (zh_Es zu_E [] zu_eff) zu_CL [zu_F 0 v] none 400 125 ((zu_O 0 v).2.1.1, (zu_O 0 v).2.1.2.1, (zu_O 0 v).2.1.2.2.1, (zu_O 0 v).2.1.2.2.2.1, (zu_O 0 v).2.1.2.2.2.2.1, [], []) [(11, 0)] 0 0) = true := by decide +kernel
theorem zu_g3_1 : (List.range 12).all (fun v => zk_go (zh_Es zu_E [] zu_eff) zu_CL [zu_F 1 v] none 400 125 ((zu_O 1 v).2.1.1, (zu_O 1 v).2.1.2.1, (zu_O 1 v).2.1.2.2.1, (zu_O 1 v).2.1.2.2.2.1, (zu_O 1 v).2.1.2.2.2.2.1, [], []) [(11, 0)] 0 0) = true := by decide +kernel
theorem zu_g3_2 : (List.range 12).all (fun v => zk_go (zh_Es zu_E [] zu_eff) zu_CL [zu_F 2 v] none 400 125 ((zu_O 2 v).2.1.1, (zu_O 2 v).2.1.2.1, (zu_O 2 v).2.1.2.2.1, (zu_O 2 v).2.1.2.2.2.1, (zu_O 2 v).2.1.2.2.2.2.1, [], []) [(11, 0)] 0 0) = true := by decide +kernel
theorem zu_g3_3 : (List.range 12).all (fun v => zk_go (zh_Es zu_E [] zu_eff) zu_CL [zu_F 3 v] none 400 125 ((zu_O 3 v).2.1.1, (zu_O 3 v).2.1.2.1, (zu_O 3 v).2.1.2.2.1, (zu_O 3 v).2.1.2.2.2.1, (zu_O 3 v).2.1.2.2.2.2.1, [], []) [(11, 0)] 0 0) = true := by decide +kernel
theorem zu_g3_4 : (List.range 12).all (fun v => zk_go (zh_Es zu_E [] zu_eff) zu_CL [zu_F 4 v] none 400 125 ((zu_O 4 v).2.1.1, (zu_O 4 v).2.1.2.1, (zu_O 4 v).2.1.2.2.1, (zu_O 4 v).2.1.2.2.2.1, (zu_O 4 v).2.1.2.2.2.2.1, [], []) [(11, 0)] 0 0) = true := by decide +kernel
theorem zu_g3_5 : (List.range 12).all (fun v => zk_go (zh_Es zu_E [] zu_eff) zu_CL [zu_F 5 v] none 400 125 ((zu_O 5 v).2.1.1, (zu_O 5 v).2.1.2.1, (zu_O 5 v).2.1.2.2.1, (zu_O 5 v).2.1.2.2.2.1, (zu_O 5 v).2.1.2.2.2.2.1, [], []) [(11, 0)] 0 0) = true := by decide +kernel
theorem zu_g3 {i v : Nat} (hi : i < 6) (hv : v < 12) : (zk_go (zh_Es zu_E [] zu_eff) zu_CL [zu_F i v] none 400 125 ((zu_O i v).2.1.1, (zu_O i v).2.1.2.1, (zu_O i v).2.1.2.2.1, (zu_O i v).2.1.2.2.2.1, (zu_O i v).2.1.2.2.2.2.1, [], []) [(11, 0)] 0 0) = true :=
  match i, hi with
  | 0, _ => List.all_eq_true.mp zu_g3_0 v (List.mem_range.mpr hv)
  | 1, _ => List.all_eq_true.mp zu_g3_1 v (List.mem_range.mpr hv)
  | 2, _ => List.all_eq_true.mp zu_g3_2 v (List.mem_range.mpr hv)
  | 3, _ => List.all_eq_true.mp zu_g3_3 v (List.mem_range.mpr hv)
  | 4, _ => List.all_eq_true.mp zu_g3_4 v (List.mem_range.mpr hv)
  | 5, _ => List.all_eq_true.mp zu_g3_5 v (List.mem_range.mpr hv)
  | k + 6, h => absurd h (by omega)
section ZK55
variable {p : Program} {l : Launch} {e : Env} {R : Room} {s : State} {m : MethodId} {args : Array Value} {below : List Frame} {meth : Method} {c : Code} {Q : State → Prop}
variable {cc : ByteArray} {w : zk_W} {u : zk_M} {Ts : List Jvm.Cond} {own : String}
set_option maxRecDepth 4000 in
theorem zu_head (hx : p.tables.exec = Jvm.exec) (hb : c.code = cc) (hcc : cc = prog_14_method_67_code) (hW : zh_W w) {X : Nat → Prop} {P0 : Nat → Option Nat} {G0 : Nat → va_E} {ps : List Int} (hE : zh_E l R s m args meth c w zu_E P0 X) (hQ : Q = MQ below (fun _ st o t => zk_post w zK_1054 P0 G0 ps st t o) args s (zk_Kr zK_1054).2.2.1 (zk_Kr zK_1054).2.2.2 (fun q => w.2.2.2.1 ≤ q)) (hpl : ps.length = 3) {i : Nat} (hi : i < 6) :
    ∀ (j v : Nat), v + j = 12 → ∀ (N : List Int) (P : Nat → Option Nat) (F : Nat → va_E) (H : Heap) (locs : List Loc) (ls : Array Slot), zk_G w s (P0, G0, ps, zu_eff, [], 8, X) (zu_H i v) N P F H locs ls → W p l e R s m args below meth c H locs 0 0 Q (F0 m 78 ls []) := by
  subst hcc
  intro j
  induction j with
  | zero =>
    intro v hv N P F H locs ls hG
    obtain rfl : v = 12 := by omega
    have hext := hG.2.2.2.2.2.2.1
    have hef := hG.2.2.2.2.2.2.2.1
    refine zh_seg hx hb hE (ps' := []) (kp' := []) (eff := zu_eff) rfl zu_hCL (AL := []) (AN := [zu_T i 12]) (fuel := 400) (pc := 78) (by rw [List.all_nil, Bool.and_true]; exact zu_g2 hi) hext (zh_reb hG (pa := []) (fun q hq => absurd hq List.not_mem_nil)) zh_nil (fun A hA => Or.inr (fun N1 P1 F1 H1 locs1 ls1 sv1 hG1 hS1 => ?_))
    obtain rfl := List.mem_singleton.mp hA
    have hxt1 := hG1.2.2.2.2.2.2.1
    have hext1 : ∀ a t, P0 a = some t → P1 a = some t := fun a t h => hxt1 a t (hext a t h)
    have hef1 : zk_ef zu_eff ps P0 G0 F1 := zh_ef hef hG1.2.2.2.2.2.2.2.1 hext zu_eok zu_eok
    exact zh_tail hx hb hE hQ hpl zu_hCL (fuel := 400) (zu_t2 hi) (zh_back hG1 hext hef1 (pa := []) (fun q hq => absurd hq List.not_mem_nil)) hS1
  | succ j ih =>
    intro v hvj N P F H locs ls hG
    have hv : v < 12 := by omega
    have hext := hG.2.2.2.2.2.2.1
    have hef := hG.2.2.2.2.2.2.2.1
    refine zh_seg hx hb hE (ps' := []) (kp' := []) (eff := zu_eff) rfl zu_hCL (AL := []) (AN := [zu_A i v, zu_B i v, zu_T i v]) (fuel := 400) (pc := 78) (by rw [List.all_nil, Bool.and_true]; exact zu_g1 hi hv) hext (zh_reb hG (pa := []) (fun q hq => absurd hq List.not_mem_nil)) zh_nil (fun A hA => Or.inr (fun N1 P1 F1 H1 locs1 ls1 sv1 hG1 hS1 => ?_))
    have hxt1 := hG1.2.2.2.2.2.2.1
    have hext1 : ∀ a t, P0 a = some t → P1 a = some t := fun a t h => hxt1 a t (hext a t h)
    have hef1 : zk_ef zu_eff ps P0 G0 F1 := zh_ef hef hG1.2.2.2.2.2.2.2.1 hext zu_eok zu_eok
    simp only [List.mem_cons, List.not_mem_nil, or_false] at hA
    rcases hA with rfl | rfl | rfl
    · obtain ⟨hf1, hf2⟩ := zh_fit (zh_back hG1 hext hef1 (pa := []) (fun q hq => absurd hq List.not_mem_nil)) hS1 (zu_HA i (v + 1)) [(0, 0), (1, 0), (2, 0), (4, 0), (5, 0), (6, 0), (7, 0), (8, 0), (3, 0)] (zu_f1 hi hv)
      match sv1, hf2 with
      | [], _ => exact ih (v + 1) (by omega) _ P1 F1 H1 locs1 ls1 hf1
    · obtain ⟨a, ea, ha⟩ := zh_r hG1.1 (i := 3) rfl
      obtain ⟨r, er, hr⟩ := zh_r hG1.1 (i := 8) rfl
      obtain ⟨y, ey, y1, y2⟩ := zh_i hG1.1 (i := 7) rfl
      obtain ⟨z, ez, z1, z2⟩ := zh_i hG1.1 (i := 10) rfl
      obtain ⟨cB, nB, fB, oB, pB, qB, -⟩ := zk_iarr hG1.2.2.2.2.1 hr (T := zt_types.getD 59 (0, 0, 0, [])) (by rw [hW.1]; rfl) (Or.inl rfl)
      have t1 : (fB (181 + 900 * i)).toInt = z := zh_elf hG1.2.2.1 (List.mem_of_getElem? (i := 3) rfl) (by omega) er oB rfl ez
      obtain ⟨w34, r34, s34⟩ := zh_rdf hG1.2.2.1 (x := 3) (k := 34) (q := (7, ((-2) + (-8) * (v : Int)))) (List.mem_of_getElem? (i := 1) rfl) ea
      obtain ⟨rfl, -⟩ := zh_vi s34 rfl ey
      obtain ⟨w3, r3, s3⟩ := zh_rdf hG1.2.2.1 (x := 3) (k := 3) (q := (8, 0)) (List.mem_of_getElem? (i := 0) rfl) ea
      obtain rfl := zh_vr s3 rfl er
      have h20 := zh_fk hG1.2.2.2.2.1 ha (T := zt_types.getD 13 (0, 0, 0, [])) (by rw [hW.1]; rfl) rfl (k := 20) (n := 0) rfl
      have hlw := zh_lawR hG1.2.2.2.2.1 hr (T := zt_types.getD 59 (0, 0, 0, [])) (by rw [hW.1]; rfl) oB i hi
      rw [Nat.zero_add] at hlw
      have y3 : y = 182 + 900 * (i : Int) + 8 * (v : Int) := by omega
      have hAA : zs_A P1 F1 [(a : Int), y] := ⟨a, r, i, v, cB, nB, fB, by rw [y3], hi, hv, ha, by rw [h20]; rfl, by rw [r34, show y + ((-2) + (-8) * (v : Int)) = 180 + 900 * (i : Int) by omega], r3, hr, oB, by rw [show 180 + 900 * i + 1 = 181 + 900 * i by omega, t1]; omega, hlw⟩
      refine zh_call hx hb hE (ps' := []) (kp' := []) (eff := zu_eff) rfl (zs_is hW) (mi := 242) rfl (i := .invokevirtual 414) (len := 3) (pc := 122) (κ := ((zu_B i v).2.1.1, (zu_B i v).2.1.2.1, (zu_B i v).2.1.2.2.1, (zu_B i v).2.1.2.2.2.1, (zu_B i v).2.1.2.2.2.2.1, [], [])) (st := (zu_B i v).2.2.1) (cu := 0) (su := 0) (outs := [zu_O i v]) (zh_oe (zu_c hi hv)) (zu_hCL (122, .invokevirtual 414, 3, 0, []) (List.mem_of_getElem? (i := 73) rfl)) hext1 (zh_reb hG1 (pa := []) (fun q hq => absurd hq List.not_mem_nil)) hS1 (fun ps hp => by rw [zh_p2 (x1 := 3) (x2 := 7) (o2 := 0) hp ea ey, Int.add_zero]; exact hAA) (fun o ho N2 P2 F2 H2 locs2 ls2 sv2 ps2 rn2 hh2 hB2 hN2 hG2 hS2 => ?_)
      obtain rfl := List.mem_singleton.mp ho
      have hxt2 := hG2.2.2.2.2.2.2.1
      have hext2 : ∀ a t, P0 a = some t → P2 a = some t := fun a t h => hxt2 a t (hext1 a t h)
      have hef2 : zk_ef zu_eff ps P0 G0 F2 := zh_ef hef1 hG2.2.2.2.2.2.2.2.1 hext1 zu_eok zu_eok
      refine zh_seg hx hb hE (ps' := []) (kp' := []) (eff := zu_eff) rfl zu_hCL (AL := []) (AN := [zu_F i v]) (fuel := 400) (pc := 125) (by rw [List.all_nil, Bool.and_true]; exact zu_g3 hi hv) hext2 (zh_reb hG2 (pa := []) (fun q hq => absurd hq List.not_mem_nil)) hS2 (fun A hA => Or.inr (fun N3 P3 F3 H3 locs3 ls3 sv3 hG3 hS3 => ?_))
      obtain rfl := List.mem_singleton.mp hA
      have hxt3 := hG3.2.2.2.2.2.2.1
      have hext3 : ∀ a t, P0 a = some t → P3 a = some t := fun a t h => hxt3 a t (hext2 a t h)
      have hef3 : zk_ef zu_eff ps P0 G0 F3 := zh_ef hef2 hG3.2.2.2.2.2.2.2.1 hext2 zu_eok zu_eok
      obtain ⟨hf1, hf2⟩ := zh_fit (zh_back hG3 hext2 hef3 (pa := []) (fun q hq => absurd hq List.not_mem_nil)) hS3 (zu_HA i (v + 1)) [(0, 0), (1, 0), (2, 0), (4, 0), (5, 0), (6, 0), (7, 0), (8, 0), (3, 0)] (zu_f2 hi hv)
      match sv3, hf2 with
      | [], _ => exact ih (v + 1) (by omega) _ P3 F3 H3 locs3 ls3 hf1
    · exact zh_tail hx hb hE hQ hpl zu_hCL (fuel := 400) (zu_t1 hi hv) (zh_back hG1 hext hef1 (pa := []) (fun q hq => absurd hq List.not_mem_nil)) hS1
end ZK55
set_option maxRecDepth 4000 in
theorem zq_1054 {l : Launch} {w : zk_W} (hW : zh_W w) : zh_K l w zK_1054 := by
  refine zh_methH hW (lk := zu_E.2.1) (KS := zu_E.2.2.2.1) (km := zu_E.2.2.2.2.1) (lc := zu_E.2.2.2.2.2.1) (K := zK_1054) (pl := 1809) (A := zk_tA) (B := zk_tB) (by decide) (by decide +kernel) (by decide +kernel) (fun K h => by
    rw [List.mem_singleton.mp h]
    exact zq_1117 hW) (fun p e R s m args below meth cc Q P0 G0 ps X hx hb _ hps hE hQ H locs ls hG => ?_)
  have hE : zh_E l R s m args meth cc w zu_E P0 X := hE
  have hpl : ps.length = 3 := (zk_all2_len hps).symm
  have hext : ∀ a t, P0 a = some t → P0 a = some t := fun _ _ h => h
  have hef : zk_ef zu_eff ps P0 G0 G0 := fun _ _ _ => zk_same.rf
  refine zh_seg hx hb hE (ps' := []) (kp' := []) (eff := zu_eff) rfl zu_hCL (AL := []) (AN := [zu_A10, zu_A12]) (fuel := 400) (pc := 0) (by rw [List.all_nil, Bool.and_true]; exact zu_gA) hext (zh_reb hG (pa := []) (fun q hq => absurd hq List.not_mem_nil)) zh_nil (fun A hA => Or.inr (fun N1 P1 F1 H1 locs1 ls1 sv1 hG1 hS1 => ?_))
  have hxt1 := hG1.2.2.2.2.2.2.1
  have hext1 : ∀ a t, P0 a = some t → P1 a = some t := fun a t h => hxt1 a t (hext a t h)
  have hef1 : zk_ef zu_eff ps P0 G0 F1 := zh_ef hef hG1.2.2.2.2.2.2.2.1 hext zu_eok zu_eok
  simp only [List.mem_cons, List.not_mem_nil, or_false] at hA
  rcases hA with rfl | rfl
  · exact zh_tail hx hb hE hQ hpl zu_hCL (fuel := 400) zu_tA (zh_back hG1 hext hef1 (pa := []) (fun q hq => absurd hq List.not_mem_nil)) hS1
  · obtain ⟨y, ey, y1, y2⟩ := zh_i hG1.1 (i := 7) rfl
    have hi : y.toNat < 6 := by omega
    have g := zk_G.set hG1 (x := 7) (f := (0, 0, 0, 5)) (f' := (0, 0, (y.toNat : Int), (y.toNat : Int))) rfl (Or.inl rfl) (fun q hq _ => by rw [ey] at hq; cases hq; exact ⟨by dsimp only; omega, by dsimp only; omega, ⟨by omega, by omega⟩⟩)
    generalize y.toNat = i at hi g
    match sv1, hS1 with
    | [], _ =>
    refine zh_seg hx hb hE (ps' := []) (kp' := []) (eff := zu_eff) rfl zu_hCL (AL := []) (AN := [zu_I i]) (fuel := 400) (pc := 12) (by rw [List.all_nil, Bool.and_true]; exact zu_g12 hi) hext1 (zh_reb g (pa := []) (fun q hq => absurd hq List.not_mem_nil)) zh_nil (fun A hA => Or.inr (fun N2 P2 F2 H2 locs2 ls2 sv2 hG2 hS2 => ?_))
    obtain rfl := List.mem_singleton.mp hA
    have hxt2 := hG2.2.2.2.2.2.2.1
    have hext2 : ∀ a t, P0 a = some t → P2 a = some t := fun a t h => hxt2 a t (hext1 a t h)
    have hef2 : zk_ef zu_eff ps P0 G0 F2 := zh_ef hef1 hG2.2.2.2.2.2.2.2.1 hext1 zu_eok zu_eok
    obtain ⟨hf1, hf2⟩ := zh_fit (zh_back hG2 hext1 hef2 (pa := []) (fun q hq => absurd hq List.not_mem_nil)) hS2 (zu_HA i 0) [(0, 0), (1, 0), (2, 0), (4, 0), (5, 0), (3, 0), (8, 0), (7, 0), (0, 0)] (zu_f0 hi)
    match sv2, hf2 with
    | [], _ => exact zu_head hx hb rfl hW hE hQ hpl hi 12 0 rfl _ P2 F2 H2 locs2 ls2 hf1

