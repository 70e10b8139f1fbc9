/-! part 34: isSo (by a law of the row), by hand between segments -/
noncomputable def zK_is : zk_K := (zt_mn 242, prog_14_method_66_code, 2, (Option.some Jvm.ClassFile.FieldType.boolean), 1, 12, [(2, 13, 0, 0), (0, 0, 182, 4770)], [(some (0, 0, 0, 1), [])], [(13, 38, 0), (13, 39, 0), (13, 40, 0), (77, 1001, 0)], (2, 51, 0, 0))
noncomputable def zs_ns : List (Nat × Nat × List (Nat × Int × Nat)) := [(7, 7, []), (16, 7, []), (28, 7, []), (37, 7, []), (64, 7, []), (66, 1, []), (77, 7, []), (85, 7, [])]
noncomputable def zs_CL : List zk_Ci := zc_X12_isSo.map (zq_note zs_ns)
noncomputable def zs_E : zk_Ev := (zt_types, [(2, 13, 12, 3, 18), (2, 388, 12, 38, 3), (2, 402, 12, 39, 1), (2, 408, 12, 40, 1)], zt_dv, [], [], [(0, 405, 243)], zK_is)
noncomputable def zs_eff : List (Nat × Nat × Nat) := [(13, 38, 0), (13, 39, 0), (13, 40, 0), (77, 1001, 0)]
theorem zs_eok : ∀ e ∈ zs_eff, e ∈ zs_eff ∧ e.2.2 = 0 := by decide
theorem zs_hCL : ∀ q ∈ zs_CL, decode prog_14_method_66_code q.1 = .ok (q.2.1, q.2.2.1) := zq_note_ok zd_X12_isSo zs_ns
noncomputable def zs_IC : List (Nat × Nat) := (List.range 6).flatMap (fun i => (List.range 12).map (fun c => (i, c)))
theorem zs_mem {i c : Nat} (hi : i < 6) (hc : c < 12) : (i, c) ∈ zs_IC := by
  have h : ∀ i : Nat, i < 6 → ∀ c : Nat, c < 12 → (i, c) ∈ zs_IC := by decide +kernel
  exact h i hi c hc
noncomputable def zs_K0 (i c : Nat) : zk_C := ([(0, 0, 0, 0), (1, 0, 0, 0), (2, 0, (-1), (-1)), (2, 13, 0, 0), (0, 0, (182 + 900 * i + 8 * c), (182 + 900 * i + 8 * c)), (0, 0, (180 + 900 * i), (180 + 900 * i)), (2, 59, 0, 0)], [], [(3, 20, (0, 0)), (3, 3, (6, 0)), (3, 34, (5, 0))], [], [(0, (3, 0)), (1, (4, 0))], [(0, 3), (1, 4), (2, 5), (3, 6)], [])
noncomputable def zs_B0 (i c : Nat) : zk_An := (110, ([(0, 0, 0, 0), (1, 0, 0, 0), (2, 0, (-1), (-1)), (2, 13, 0, 0), (0, 0, (182 + 900 * i + 8 * c), (182 + 900 * i + 8 * c)), (0, 0, (180 + 900 * i), (180 + 900 * i)), (2, 59, 0, 0), (0, 0, 4, 4), (0, 0, 0, 400), (0, 0, 0, 400)], [(8, 9, 0)], [(3, 20, (0, 0)), (3, 3, (6, 0)), (3, 34, (5, 0)), (6, (2182 + 900 * i + 8 * c), (7, 0)), (6, (2188 + 900 * i + 8 * c), (8, 0)), (6, (2187 + 900 * i + 8 * c), (9, 0))], [], [(0, (3, 0))], [(0, 3), (1, 4), (2, 5), (3, 6)], []), [], 0, 0, (0, []))
noncomputable def zs_B1 (i c : Nat) : zk_An := (86, ([(0, 0, 0, 0), (1, 0, 0, 0), (2, 0, (-1), (-1)), (2, 13, 0, 0), (0, 0, (182 + 900 * i + 8 * c), (182 + 900 * i + 8 * c)), (0, 0, (180 + 900 * i), (180 + 900 * i)), (2, 59, 0, 0), (0, 0, 0, 400), (0, 0, 0, 400), (0, 0, (-2147483648), 3), (0, 0, 0, 400), (0, 0, 0, 400)], [(10, 11, 0)], [(3, 20, (0, 0)), (3, 3, (6, 0)), (3, 34, (5, 0)), (6, (2186 + 900 * i + 8 * c), (7, 0)), (6, (2185 + 900 * i + 8 * c), (8, 0)), (6, (2182 + 900 * i + 8 * c), (9, 0)), (6, (2188 + 900 * i + 8 * c), (10, 0)), (6, (2187 + 900 * i + 8 * c), (11, 0))], [], [(0, (3, 0))], [(0, 3), (1, 4), (2, 5), (3, 6)], []), [(7, 0), (8, 0), (3, 0)], 0, 0, (0, []))
noncomputable def zs_B2 (i c : Nat) : zk_An := (86, ([(0, 0, 0, 0), (1, 0, 0, 0), (2, 0, (-1), (-1)), (2, 13, 0, 0), (0, 0, (182 + 900 * i + 8 * c), (182 + 900 * i + 8 * c)), (0, 0, (180 + 900 * i), (180 + 900 * i)), (2, 59, 0, 0), (0, 0, 0, 400), (0, 0, 0, 400), (0, 0, 5, 2147483647), (0, 0, 0, 400), (0, 0, 0, 400)], [(10, 11, 0)], [(3, 20, (0, 0)), (3, 3, (6, 0)), (3, 34, (5, 0)), (6, (2186 + 900 * i + 8 * c), (7, 0)), (6, (2185 + 900 * i + 8 * c), (8, 0)), (6, (2182 + 900 * i + 8 * c), (9, 0)), (6, (2188 + 900 * i + 8 * c), (10, 0)), (6, (2187 + 900 * i + 8 * c), (11, 0))], [], [(0, (3, 0))], [(0, 3), (1, 4), (2, 5), (3, 6)], []), [(7, 0), (8, 0), (3, 0)], 0, 0, (0, []))
noncomputable def zs_B3 (i c : Nat) : zk_An := (38, ([(0, 0, 0, 0), (1, 0, 0, 0), (2, 0, (-1), (-1)), (2, 13, 0, 0), (0, 0, (182 + 900 * i + 8 * c), (182 + 900 * i + 8 * c)), (0, 0, (180 + 900 * i), (180 + 900 * i)), (2, 59, 0, 0), (0, 0, 1, 400), (0, 0, 0, 399)], [(8, 7, (-1))], [(3, 20, (0, 0)), (3, 3, (6, 0)), (3, 34, (5, 0)), (6, (2188 + 900 * i + 8 * c), (7, 0)), (6, (2187 + 900 * i + 8 * c), (8, 0))], [], [(0, (3, 0)), (1, (4, 0))], [(0, 3), (1, 4), (2, 5), (3, 6)], []), [(7, 0), (8, 0), (3, 0)], 0, 0, (0, []))
noncomputable def zs_D0 (i c : Nat) : zk_An := (57, ([(0, 0, 0, 0), (1, 0, 0, 0), (2, 0, (-1), (-1)), (2, 13, 0, 0), (0, 0, (182 + 900 * i + 8 * c), (182 + 900 * i + 8 * c)), (0, 0, (180 + 900 * i), (180 + 900 * i)), (2, 59, 0, 0), (0, 0, 0, 1), (0, 0, 1, 400), (0, 0, 0, 399)], [(9, 8, (-1))], [(3, 38, (7, 0)), (3, 20, (0, 0)), (3, 3, (6, 0)), (3, 34, (5, 0)), (6, (2188 + 900 * i + 8 * c), (8, 0)), (6, (2187 + 900 * i + 8 * c), (9, 0))], [], [(0, (3, 0))], [(0, 3), (1, 4), (2, 5), (3, 6)], []), [], 0, 0, (0, []))
noncomputable def zs_D1 (i c : Nat) : zk_An := (110, ([(0, 0, 0, 0), (1, 0, 0, 0), (2, 0, (-1), (-1)), (2, 13, 0, 0), (0, 0, (182 + 900 * i + 8 * c), (182 + 900 * i + 8 * c)), (0, 0, (180 + 900 * i), (180 + 900 * i)), (2, 59, 0, 0), (1, 0, (-9223372036854775808), 9223372036854775807), (0, 0, 0, 0), (0, 0, 4, 4), (0, 0, 1, 400), (0, 0, 0, 399)], [(11, 10, (-1))], [(3, 39, (7, 0)), (3, 38, (8, 0)), (3, 20, (0, 0)), (3, 3, (6, 0)), (3, 34, (5, 0)), (6, (2182 + 900 * i + 8 * c), (9, 0)), (6, (2188 + 900 * i + 8 * c), (10, 0)), (6, (2187 + 900 * i + 8 * c), (11, 0))], [], [(0, (3, 0))], [(0, 3), (1, 4), (2, 5), (3, 6)], []), [], 0, 0, (0, []))
noncomputable def zs_D2 (i c : Nat) : zk_An := (86, ([(0, 0, 0, 0), (1, 0, 0, 0), (2, 0, (-1), (-1)), (2, 13, 0, 0), (0, 0, (182 + 900 * i + 8 * c), (182 + 900 * i + 8 * c)), (0, 0, (180 + 900 * i), (180 + 900 * i)), (2, 59, 0, 0), (0, 0, 0, 400), (0, 0, 0, 400), (1, 0, (-9223372036854775808), 9223372036854775807), (0, 0, 0, 0), (0, 0, (-2147483648), 3), (0, 0, 1, 400), (0, 0, 0, 399)], [(13, 12, (-1))], [(3, 39, (9, 0)), (3, 38, (10, 0)), (3, 20, (0, 0)), (3, 3, (6, 0)), (3, 34, (5, 0)), (6, (2186 + 900 * i + 8 * c), (7, 0)), (6, (2185 + 900 * i + 8 * c), (8, 0)), (6, (2182 + 900 * i + 8 * c), (11, 0)), (6, (2188 + 900 * i + 8 * c), (12, 0)), (6, (2187 + 900 * i + 8 * c), (13, 0))], [], [(0, (3, 0))], [(0, 3), (1, 4), (2, 5), (3, 6)], []), [(7, 0), (8, 0), (3, 0)], 0, 0, (0, []))
noncomputable def zs_D3 (i c : Nat) : zk_An := (86, ([(0, 0, 0, 0), (1, 0, 0, 0), (2, 0, (-1), (-1)), (2, 13, 0, 0), (0, 0, (182 + 900 * i + 8 * c), (182 + 900 * i + 8 * c)), (0, 0, (180 + 900 * i), (180 + 900 * i)), (2, 59, 0, 0), (0, 0, 0, 400), (0, 0, 0, 400), (1, 0, (-9223372036854775808), 9223372036854775807), (0, 0, 0, 0), (0, 0, 5, 2147483647), (0, 0, 1, 400), (0, 0, 0, 399)], [(13, 12, (-1))], [(3, 39, (9, 0)), (3, 38, (10, 0)), (3, 20, (0, 0)), (3, 3, (6, 0)), (3, 34, (5, 0)), (6, (2186 + 900 * i + 8 * c), (7, 0)), (6, (2185 + 900 * i + 8 * c), (8, 0)), (6, (2182 + 900 * i + 8 * c), (11, 0)), (6, (2188 + 900 * i + 8 * c), (12, 0)), (6, (2187 + 900 * i + 8 * c), (13, 0))], [], [(0, (3, 0))], [(0, 3), (1, 4), (2, 5), (3, 6)], []), [(7, 0), (8, 0), (3, 0)], 0, 0, (0, []))
noncomputable def zs_O (i c : Nat) : zk_O := (41, ([(0, 0, 0, 0), (1, 0, 0, 0), (2, 0, (-1), (-1)), (2, 13, 0, 0), (0, 0, (182 + 900 * i + 8 * c), (182 + 900 * i + 8 * c)), (0, 0, (180 + 900 * i), (180 + 900 * i)), (2, 59, 0, 0), (0, 0, 1, 400), (0, 0, 0, 399)], [(8, 7, (-1))], [(3, 20, (0, 0)), (3, 3, (6, 0)), (3, 34, (5, 0)), (6, (2188 + 900 * i + 8 * c), (7, 0)), (6, (2187 + 900 * i + 8 * c), (8, 0))], [], [(0, (3, 0)), (1, (4, 0))], [(0, 3), (1, 4), (2, 5), (3, 6)], []), [], 0, 0)
noncomputable def zs_K41 (i c : Nat) : zk_C := ([(0, 0, 0, 0), (1, 0, 0, 0), (2, 0, (-1), (-1)), (2, 13, 0, 0), (0, 0, (182 + 900 * i + 8 * c), (182 + 900 * i + 8 * c)), (0, 0, (180 + 900 * i), (180 + 900 * i)), (2, 59, 0, 0), (0, 0, 1, 400), (0, 0, 0, 399)], [(8, 7, (-1))], [(3, 20, (0, 0)), (3, 3, (6, 0)), (3, 34, (5, 0)), (6, (2188 + 900 * i + 8 * c), (7, 0)), (6, (2187 + 900 * i + 8 * c), (8, 0))], [], [(0, (3, 0)), (1, (4, 0))], [(0, 3), (1, 4), (2, 5), (3, 6)], [])
noncomputable def zs_OB1 (i c : Nat) : zk_O := (89, ([(0, 0, 0, 0), (1, 0, 0, 0), (2, 0, (-1), (-1)), (2, 13, 0, 0), (0, 0, (182 + 900 * i + 8 * c), (182 + 900 * i + 8 * c)), (0, 0, (180 + 900 * i), (180 + 900 * i)), (2, 59, 0, 0), (0, 0, 0, 400), (0, 0, 0, 400), (0, 0, (-2147483648), 3), (0, 0, 0, 400), (0, 0, 0, 400)], [(10, 11, 0)], [(3, 20, (0, 0)), (3, 3, (6, 0)), (3, 34, (5, 0)), (6, (2186 + 900 * i + 8 * c), (7, 0)), (6, (2185 + 900 * i + 8 * c), (8, 0)), (6, (2182 + 900 * i + 8 * c), (9, 0)), (6, (2188 + 900 * i + 8 * c), (10, 0)), (6, (2187 + 900 * i + 8 * c), (11, 0))], [], [(0, (3, 0))], [(0, 3), (1, 4), (2, 5), (3, 6)], []), [], 0, 0)
noncomputable def zs_OB2 (i c : Nat) : zk_O := (89, ([(0, 0, 0, 0), (1, 0, 0, 0), (2, 0, (-1), (-1)), (2, 13, 0, 0), (0, 0, (182 + 900 * i + 8 * c), (182 + 900 * i + 8 * c)), (0, 0, (180 + 900 * i), (180 + 900 * i)), (2, 59, 0, 0), (0, 0, 0, 400), (0, 0, 0, 400), (0, 0, 5, 2147483647), (0, 0, 0, 400), (0, 0, 0, 400)], [(10, 11, 0)], [(3, 20, (0, 0)), (3, 3, (6, 0)), (3, 34, (5, 0)), (6, (2186 + 900 * i + 8 * c), (7, 0)), (6, (2185 + 900 * i + 8 * c), (8, 0)), (6, (2182 + 900 * i + 8 * c), (9, 0)), (6, (2188 + 900 * i + 8 * c), (10, 0)), (6, (2187 + 900 * i + 8 * c), (11, 0))], [], [(0, (3, 0))], [(0, 3), (1, 4), (2, 5), (3, 6)], []), [], 0, 0)
noncomputable def zs_OD2 (i c : Nat) : zk_O := (89, ([(0, 0, 0, 0), (1, 0, 0, 0), (2, 0, (-1), (-1)), (2, 13, 0, 0), (0, 0, (182 + 900 * i + 8 * c), (182 + 900 * i + 8 * c)), (0, 0, (180 + 900 * i), (180 + 900 * i)), (2, 59, 0, 0), (0, 0, 0, 400), (0, 0, 0, 400), (1, 0, (-9223372036854775808), 9223372036854775807), (0, 0, 0, 0), (0, 0, (-2147483648), 3), (0, 0, 1, 400), (0, 0, 0, 399)], [(13, 12, (-1))], [(3, 20, (0, 0)), (3, 3, (6, 0)), (3, 34, (5, 0)), (6, (2186 + 900 * i + 8 * c), (7, 0)), (6, (2185 + 900 * i + 8 * c), (8, 0)), (6, (2182 + 900 * i + 8 * c), (11, 0)), (6, (2188 + 900 * i + 8 * c), (12, 0)), (6, (2187 + 900 * i + 8 * c), (13, 0))], [], [(0, (3, 0))], [(0, 3), (1, 4), (2, 5), (3, 6)], []), [], 0, 0)
noncomputable def zs_OD3 (i c : Nat) : zk_O := (89, ([(0, 0, 0, 0), (1, 0, 0, 0), (2, 0, (-1), (-1)), (2, 13, 0, 0), (0, 0, (182 + 900 * i + 8 * c), (182 + 900 * i + 8 * c)), (0, 0, (180 + 900 * i), (180 + 900 * i)), (2, 59, 0, 0), (0, 0, 0, 400), (0, 0, 0, 400), (1, 0, (-9223372036854775808), 9223372036854775807), (0, 0, 0, 0), (0, 0, 5, 2147483647), (0, 0, 1, 400), (0, 0, 0, 399)], [(13, 12, (-1))], [(3, 20, (0, 0)), (3, 3, (6, 0)), (3, 34, (5, 0)), (6, (2186 + 900 * i + 8 * c), (7, 0)), (6, (2185 + 900 * i + 8 * c), (8, 0)), (6, (2182 + 900 * i + 8 * c), (11, 0)), (6, (2188 + 900 * i + 8 * c), (12, 0)), (6, (2187 + 900 * i + 8 * c), (13, 0))], [], [(0, (3, 0))], [(0, 3), (1, 4), (2, 5), (3, 6)], []), [], 0, 0)
theorem zs_g0_0 : (List.range 12).all (fun c => zk_go (zh_Es zs_E [(0, 0, 0, 0), (0, 0, 0, 0), (0, 0, 0, 0), (0, 0, 0, 0)] zs_eff) zs_CL [zs_B0 0 c, zs_B1 0 c, zs_B2 0 c, zs_B3 0 c] none 400 0 (zs_K0 0 c) [] 0 0) = true := by decide +kernel
theorem zs_g0_1 : (List.range 12).all (fun c => zk_go (zh_Es zs_E [(0, 0, 0, 0), (0, 0, 0, 0), (0, 0, 0, 0), (0, 0, 0, 0)] zs_eff) zs_CL [zs_B0 1 c, zs_B1 1 c, zs_B2 1 c, zs_B3 1 c] none 400 0 (zs_K0 1 c) [] 0 0) = true := by decide +kernel
theorem zs_g0_2 : (List.range 12).all (fun c => zk_go (zh_Es zs_E [(0, 0, 0, 0), (0, 0, 0, 0), (0, 0, 0, 0), (0, 0, 0, 0)] zs_eff) zs_CL [zs_B0 2 c, zs_B1 2 c, zs_B2 2 c, zs_B3 2 c] none 400 0 (zs_K0 2 c) [] 0 0) = true := by decide +kernel
theorem zs_g0_3 : (List.range 12).all (fun c => zk_go (zh_Es zs_E [(0, 0, 0, 0), (0, 0, 0, 0), (0, 0, 0, 0), (0, 0, 0, 0)] zs_eff) zs_CL [zs_B0 3 c, zs_B1 3 c, zs_B2 3 c, zs_B3 3 c] none 400 0 (zs_K0 3 c) [] 0 0) = true := by decide +kernel
theorem zs_g0_4 : (List.range 12).all (fun c => zk_go (zh_Es zs_E [(0, 0, 0, 0), (0, 0, 0, 0), (0, 0, 0, 0), (0, 0, 0, 0)] zs_eff) zs_CL [zs_B0 4 c, zs_B1 4 c, zs_B2 4 c, zs_B3 4 c] none 400 0 (zs_K0 4 c) [] 0 0) = true := by decide +kernel
theorem zs_g0_5 : (List.range 12).all (fun c => zk_go (zh_Es zs_E [(0, 0, 0, 0), (0, 0, 0, 0), (0, 0, 0, 0), (0, 0, 0, 0)] zs_eff) zs_CL [zs_B0 5 c, zs_B1 5 c, zs_B2 5 c, zs_B3 5 c] none 400 0 (zs_K0 5 c) [] 0 0) = true := by decide +kernel
theorem zs_g0 {i c : Nat} (hi : i < 6) (hc : c < 12) : (zk_go (zh_Es zs_E [(0, 0, 0, 0), (0, 0, 0, 0), (0, 0, 0, 0), (0, 0, 0, 0)] zs_eff) zs_CL [zs_B0 i c, zs_B1 i c, zs_B2 i c, zs_B3 i c] none 400 0 (zs_K0 i c) [] 0 0) = true :=
  match i, hi with
  | 0, _ => List.all_eq_true.mp zs_g0_0 c (List.mem_range.mpr hc)
  | 1, _ => List.all_eq_true.mp zs_g0_1 c (List.mem_range.mpr hc)
  | 2, _ => List.all_eq_true.mp zs_g0_2 c (List.mem_range.mpr hc)
  | 3, _ => List.all_eq_true.mp zs_g0_3 c (List.mem_range.mpr hc)
  | 4, _ => List.all_eq_true.mp zs_g0_4 c (List.mem_range.mpr hc)
  | 5, _ => List.all_eq_true.mp zs_g0_5 c (List.mem_range.mpr hc)
  | k + 6, h => absurd h (by omega)
theorem zs_g1_0 : (List.range 12).all (fun c => zk_go (zh_Es zs_E [(0, 0, 0, 0), (0, 0, 0, 0), (0, 0, 0, 0), (0, 0, 0, 0)] zs_eff) zs_CL [zs_D0 0 c, zs_D1 0 c, zs_D2 0 c, zs_D3 0 c] none 400 41 (zs_K41 0 c) [] 0 0) = true := by decide +kernel
theorem zs_g1_1 : (List.range 12).all (fun c => zk_go (zh_Es zs_E [(0, 0, 0, 0), (0, 0, 0, 0), (0, 0, 0, 0), (0, 0, 0, 0)] zs_eff) zs_CL [zs_D0 1 c, zs_D1 1 c, zs_D2 1 c, zs_D3 1 c] none 400 41 (zs_K41 1 c) [] 0 0) = true := by decide +kernel
theorem zs_g1_2 : (List.range 12).all (fun c => zk_go (zh_Es zs_E [(0, 0, 0, 0), (0, 0, 0, 0), (0, 0, 0, 0), (0, 0, 0, 0)] zs_eff) zs_CL [zs_D0 2 c, zs_D1 2 c, zs_D2 2 c, zs_D3 2 c] none 400 41 (zs_K41 2 c) [] 0 0) = true := by decide +kernel
theorem zs_g1_3 : (List.range 12).all (fun c => zk_go (zh_Es zs_E [(0, 0, 0, 0), (0, 0, 0, 0), (0, 0, 0, 0), (0, 0, 0, 0)] zs_eff) zs_CL [zs_D0 3 c, zs_D1 3 c, zs_D2 3 c, zs_D3 3 c] none 400 41 (zs_K41 3 c) [] 0 0) = true := by decide +kernel
theorem zs_g1_4 : (List.range 12).all (fun c => zk_go (zh_Es zs_E [(0, 0, 0, 0), (0, 0, 0, 0), (0, 0, 0, 0), (0, 0, 0, 0)] zs_eff) zs_CL [zs_D0 4 c, zs_D1 4 c, zs_D2 4 c, zs_D3 4 c] none 400 41 (zs_K41 4 c) [] 0 0) = true := by decide +kernel
theorem zs_g1_5 : (List.range 12).all (fun c => zk_go (zh_Es zs_E [(0, 0, 0, 0), (0, 0, 0, 0), (0, 0, 0, 0), (0, 0, 0, 0)] zs_eff) zs_CL [zs_D0 5 c, zs_D1 5 c, zs_D2 5 c, zs_D3 5 c] none 400 41 (zs_K41 5 c) [] 0 0) = true := by decide +kernel
theorem zs_g1 {i c : Nat} (hi : i < 6) (hc : c < 12) : (zk_go (zh_Es zs_E [(0, 0, 0, 0), (0, 0, 0, 0), (0, 0, 0, 0), (0, 0, 0, 0)] zs_eff) zs_CL [zs_D0 i c, zs_D1 i c, zs_D2 i c, zs_D3 i c] none 400 41 (zs_K41 i c) [] 0 0) = true :=
  match i, hi with
  | 0, _ => List.all_eq_true.mp zs_g1_0 c (List.mem_range.mpr hc)
  | 1, _ => List.all_eq_true.mp zs_g1_1 c (List.mem_range.mpr hc)
  | 2, _ => List.all_eq_true.mp zs_g1_2 c (List.mem_range.mpr hc)
  | 3, _ => List.all_eq_true.mp zs_g1_3 c (List.mem_range.mpr hc)
  | 4, _ => List.all_eq_true.mp zs_g1_4 c (List.mem_range.mpr hc)
  | 5, _ => List.all_eq_true.mp zs_g1_5 c (List.mem_range.mpr hc)
  | k + 6, h => absurd h (by omega)
theorem zs_tB0 : zs_IC.all (fun q => zk_go zs_E zs_CL [] none 400 110 ((zs_B0 q.1 q.2).2.1.1, (zs_B0 q.1 q.2).2.1.2.1, (zs_B0 q.1 q.2).2.1.2.2.1, (zs_B0 q.1 q.2).2.1.2.2.2.1, (zs_B0 q.1 q.2).2.1.2.2.2.2.1, [], []) [] 0 0) = true := by decide +kernel
theorem zs_tD0 : zs_IC.all (fun q => zk_go zs_E zs_CL [] none 400 57 ((zs_D0 q.1 q.2).2.1.1, (zs_D0 q.1 q.2).2.1.2.1, (zs_D0 q.1 q.2).2.1.2.2.1, (zs_D0 q.1 q.2).2.1.2.2.2.1, (zs_D0 q.1 q.2).2.1.2.2.2.2.1, [], []) [] 0 0) = true := by decide +kernel
theorem zs_tD1 : zs_IC.all (fun q => zk_go zs_E zs_CL [] none 400 110 ((zs_D1 q.1 q.2).2.1.1, (zs_D1 q.1 q.2).2.1.2.1, (zs_D1 q.1 q.2).2.1.2.2.1, (zs_D1 q.1 q.2).2.1.2.2.2.1, (zs_D1 q.1 q.2).2.1.2.2.2.2.1, [], []) [] 0 0) = true := by decide +kernel
theorem zs_uB1 : zs_IC.all (fun q => zk_go zs_E zs_CL [] none 400 89 ((zs_OB1 q.1 q.2).2.1.1, (zs_OB1 q.1 q.2).2.1.2.1, (zs_OB1 q.1 q.2).2.1.2.2.1, (zs_OB1 q.1 q.2).2.1.2.2.2.1, (zs_OB1 q.1 q.2).2.1.2.2.2.2.1, [], []) [] 0 0) = true := by decide +kernel
theorem zs_uB2 : zs_IC.all (fun q => zk_go zs_E zs_CL [] none 400 89 ((zs_OB2 q.1 q.2).2.1.1, (zs_OB2 q.1 q.2).2.1.2.1, (zs_OB2 q.1 q.2).2.1.2.2.1, (zs_OB2 q.1 q.2).2.1.2.2.2.1, (zs_OB2 q.1 q.2).2.1.2.2.2.2.1, [], []) [] 0 0) = true := by decide +kernel
theorem zs_uD2 : zs_IC.all (fun q => zk_go zs_E zs_CL [] none 400 89 ((zs_OD2 q.1 q.2).2.1.1, (zs_OD2 q.1 q.2).2.1.2.1, (zs_OD2 q.1 q.2).2.1.2.2.1, (zs_OD2 q.1 q.2).2.1.2.2.2.1, (zs_OD2 q.1 q.2).2.1.2.2.2.2.1, [], []) [] 0 0) = true := by decide +kernel
theorem zs_uD3 : zs_IC.all (fun q => zk_go zs_E zs_CL [] none 400 89 ((zs_OD3 q.1 q.2).2.1.1, (zs_OD3 q.1 q.2).2.1.2.1, (zs_OD3 q.1 q.2).2.1.2.2.1, (zs_OD3 q.1 q.2).2.1.2.2.2.1, (zs_OD3 q.1 q.2).2.1.2.2.2.2.1, [], []) [] 0 0) = true := by decide +kernel
theorem zs_c38 : zs_IC.all (fun q => @decide _ (zh_dL (zk_s7 zs_E.1 zs_E.2.2.1 [zK_rk] [243] zs_E.2.2.2.2.2.1 zs_eff (zk_Kr (zk_ev zs_E)) 0 (.invokevirtual 405) 3 38 (zs_B3 q.1 q.2).2.1 (zs_B3 q.1 q.2).2.2.1 0 0) (some [zs_O q.1 q.2]))) = true := by decide +kernel
theorem zs_cB1 : zs_IC.all (fun q => @decide _ (zh_dL (zk_s7 zs_E.1 zs_E.2.2.1 [zK_rk] [243] zs_E.2.2.2.2.2.1 zs_eff (zk_Kr (zk_ev zs_E)) 0 (.invokevirtual 405) 3 86 (zs_B1 q.1 q.2).2.1 (zs_B1 q.1 q.2).2.2.1 0 0) (some [zs_OB1 q.1 q.2]))) = true := by decide +kernel
theorem zs_cB2 : zs_IC.all (fun q => @decide _ (zh_dL (zk_s7 zs_E.1 zs_E.2.2.1 [zK_rk] [243] zs_E.2.2.2.2.2.1 zs_eff (zk_Kr (zk_ev zs_E)) 0 (.invokevirtual 405) 3 86 (zs_B2 q.1 q.2).2.1 (zs_B2 q.1 q.2).2.2.1 0 0) (some [zs_OB2 q.1 q.2]))) = true := by decide +kernel
theorem zs_cD2 : zs_IC.all (fun q => @decide _ (zh_dL (zk_s7 zs_E.1 zs_E.2.2.1 [zK_rk] [243] zs_E.2.2.2.2.2.1 zs_eff (zk_Kr (zk_ev zs_E)) 0 (.invokevirtual 405) 3 86 (zs_D2 q.1 q.2).2.1 (zs_D2 q.1 q.2).2.2.1 0 0) (some [zs_OD2 q.1 q.2]))) = true := by decide +kernel
theorem zs_cD3 : zs_IC.all (fun q => @decide _ (zh_dL (zk_s7 zs_E.1 zs_E.2.2.1 [zK_rk] [243] zs_E.2.2.2.2.2.1 zs_eff (zk_Kr (zk_ev zs_E)) 0 (.invokevirtual 405) 3 86 (zs_D3 q.1 q.2).2.1 (zs_D3 q.1 q.2).2.2.1 0 0) (some [zs_OD3 q.1 q.2]))) = true := by decide +kernel
/-- what is asked of isSo: where the clause stands, and that its law is well-formed -/
noncomputable def zs_A : zk_Q := fun P F ps => ∃ (a r i c : Nat) (cA : ClassId) (n : Nat) (f : Nat → Int32), ps = [(a : Int), (182 + 900 * (i : Int) + 8 * (c : Int))] ∧ i < 6 ∧ c < 12 ∧ P a = some 13 ∧ zk_rd (F a) 20 = some (.int 0) ∧ zk_rd (F a) 34 = some (.int (Int32.ofInt (180 + 900 * (i : Int)))) ∧ zk_rd (F a) 3 = some (.ref r) ∧ P r = some 59 ∧ F r = .inl (cA, n, .inl f) ∧ (c : Int) < (f (180 + 900 * i + 1)).toInt ∧ zk_law (fun j => (f j).toInt) (180 + 900 * i)
set_option maxRecDepth 4000 in
theorem zs_is {l : Launch} {w : zk_W} (hW : zh_W w) : zk_metX l w zt_dv zt_TB zK_is zs_A zk_tB ∧ zk_cok w zt_TB zK_is := by
  refine zh_methH hW (lk := zs_E.2.1) (KS := []) (km := []) (lc := zs_E.2.2.2.2.2.1) (K := zK_is) (pl := 1817) (by decide) (by decide +kernel) (by decide +kernel) (fun K h => nomatch h) (fun p e R s m args below meth cc Q P0 G0 ps X hx hb hA hps hE hQ H locs ls hG => ?_)
  obtain ⟨a, r, i, c, cA, n, f, rfl, hi, hc, ha, h20, h34, h3, hr, hf, hcn, hl⟩ := hA
  have hE : zh_E l R s m args meth cc w zs_E P0 X := hE
  have hic := zs_mem hi hc
  obtain ⟨cA0, n0, f0, o1, o2, -⟩ := zk_iarr hG.2.2.2.2.1 hr (T := zt_types.getD 59 (0, 0, 0, [])) (by rw [hW.1]; rfl) (Or.inl rfl)
  rw [hf] at o1
  cases o1
  have hn : 5580 ≤ n := o2
  have g0 := zk_G.set hG (x := 4) (f := (0, 0, 182, 4770)) (f' := (0, 0, (182 + 900 * (i : Int) + 8 * (c : Int)), (182 + 900 * (i : Int) + 8 * (c : Int)))) rfl (Or.inl rfl) (fun q hq _ => by cases hq; exact ⟨Int.le_refl _, Int.le_refl _, ⟨by omega, by omega⟩⟩)
  have g1 := zh_fact g0 (x := 3) (a := a) (t := 13) (k := 34) (f := (0, 0, (180 + 900 * (i : Int)), (180 + 900 * (i : Int)))) (n := (180 + 900 * (i : Int))) rfl ha h34 rfl ⟨Int.le_refl _, Int.le_refl _, ⟨by omega, by omega⟩⟩
  have g2 := zh_fact g1 (x := 3) (a := a) (t := 13) (k := 3) (f := (2, 59, 0, 0)) (n := (r : Int)) rfl ha h3 (by show Value.ref r = if (r : Int) < 0 then Value.null else .ref (r : Int).toNat; rw [if_neg (by omega)]; rfl) ⟨by dsimp only; omega, by omega, fun q => absurd q (by decide), fun _ => hr⟩
  have g3 := zh_factc g2 (x := 3) (a := a) (t := 13) (k := 20) (q := (0, 0)) rfl ha h20 ⟨(0, 0, 0, 0), 0, rfl, rfl, ⟨by decide, by decide⟩, rfl⟩
  have hpa : zk_pa (([0, 0, -1] ++ [(a : Int), (182 + 900 * (i : Int) + 8 * (c : Int))] : List Int) ++ [(180 + 900 * (i : Int))] ++ [(r : Int)]) [(a : Int), (182 + 900 * (i : Int) + 8 * (c : Int)), (180 + 900 * (i : Int)), (r : Int)] [(0, 3), (1, 4), (2, 5), (3, 6)] := by
    intro q hq
    simp only [List.mem_cons, List.not_mem_nil, or_false] at hq
    rcases hq with rfl | rfl | rfl | rfl
    all_goals exact ⟨_, rfl, rfl⟩
  refine zh_seg hx hb hE (kp' := [(0, 0, 0, 0), (0, 0, 0, 0), (0, 0, 0, 0), (0, 0, 0, 0)]) (eff := zs_eff) rfl zs_hCL (AL := []) (AN := [zs_B0 i c, zs_B1 i c, zs_B2 i c, zs_B3 i c]) (fuel := 400) (pc := 0) (κ := zs_K0 i c) (by rw [List.all_nil, Bool.and_true]; exact zs_g0 hi hc) (fun _ _ h => h) (zh_reb g3 hpa) zh_nil (fun A hA => Or.inr (fun N1 P1 F1 H1 locs1 ls1 sv1 hG1 hS1 => ?_))
  have hext1 := hG1.2.2.2.2.2.2.1
  have hef1 : zk_ef zs_eff [(a : Int), (182 + 900 * (i : Int) + 8 * (c : Int))] P0 G0 F1 := zh_ef (P1 := P0) (G1 := G0) (e1 := []) (ps1 := []) (fun _ _ _ => zk_same.rf) hG1.2.2.2.2.2.2.2.1 (fun _ _ h => h) (fun e h => absurd h List.not_mem_nil) zs_eok
  have hp1 := hG1.2.2.2.2.2.2.2.2.2.1
  simp only [List.mem_cons, List.not_mem_nil, or_false] at hA
  rcases hA with rfl | rfl | rfl | rfl
  · exact zh_tail hx hb hE hQ rfl zs_hCL (fuel := 400) (List.all_eq_true.mp zs_tB0 (i, c) hic) (zh_back hG1 (fun _ _ h => h) hef1 (pa := []) (fun q hq => absurd hq List.not_mem_nil)) hS1
  · have k01 : N1[3]? = some (a : Int) := zh_pa hp1 (j := 0) (List.mem_of_getElem? (i := 0) rfl) rfl
    have k31 : N1[6]? = some (r : Int) := zh_pa hp1 (j := 3) (List.mem_of_getElem? (i := 3) rfl) rfl
    obtain ⟨cB1, nB1, fB1, oB1, pB1, qB1, -⟩ := zk_iarr hG1.2.2.2.2.1 (hext1 r 59 hr) (T := zt_types.getD 59 (0, 0, 0, [])) (by rw [hW.1]; rfl) (Or.inl rfl)
    obtain ⟨yB1, zB1⟩ := zh_same hef1 hr (by decide) hf oB1
    obtain ⟨v51, e51, l51, u51⟩ := zh_i hG1.1 (i := 8) rfl
    have t51 : (fB1 (180 + 900 * i + 2 + 8 * c + 3)).toInt = v51 := zh_elf hG1.2.2.1 (List.mem_of_getElem? (i := 4) rfl) (by omega) k31 oB1 rfl e51
    have q51 : (f (180 + 900 * i + 2 + 8 * c + 3)).toInt = v51 := by rw [← zB1 _ (by omega)]; exact t51
    obtain ⟨v61, e61, l61, u61⟩ := zh_i hG1.1 (i := 7) rfl
    have t61 : (fB1 (180 + 900 * i + 2 + 8 * c + 4)).toInt = v61 := zh_elf hG1.2.2.1 (List.mem_of_getElem? (i := 3) rfl) (by omega) k31 oB1 rfl e61
    have q61 : (f (180 + 900 * i + 2 + 8 * c + 4)).toInt = v61 := by rw [← zB1 _ (by omega)]; exact t61
    obtain ⟨v01, e01, l01, u01⟩ := zh_i hG1.1 (i := 9) rfl
    have t01 : (fB1 (180 + 900 * i + 2 + 8 * c)).toInt = v01 := zh_elf hG1.2.2.1 (List.mem_of_getElem? (i := 5) rfl) (by omega) k31 oB1 rfl e01
    have q01 : (f (180 + 900 * i + 2 + 8 * c)).toInt = v01 := by rw [← zB1 _ (by omega)]; exact t01
    have hAA1 : zr_A P1 F1 [(a : Int), v51, v61] := ⟨a, r, (180 + 900 * (i : Int)), v51, v61, cB1, nB1, fB1, rfl, hext1 a 13 ha, zh_keep hef1 ha (by decide) (by decide) h20, zh_keep hef1 ha (by decide) (by decide) h34, by omega, by omega, zh_keep hef1 ha (by decide) (by decide) h3, hext1 r 59 hr, oB1, by omega, fun hlt => by
      rw [show (180 + 900 * (i : Int)).toNat = 180 + 900 * i by omega]
      exact zh_crf zB1 hn (by omega) t51 (by omega) t61 (by omega) u61 ((hl c hc hcn).2 (by show (f (180 + 900 * i + 2 + 8 * c)).toInt ≠ 4; rw [q01]; omega))⟩
    refine zh_call hx hb hE (ps' := [(a : Int), (182 + 900 * (i : Int) + 8 * (c : Int)), (180 + 900 * (i : Int)), (r : Int)]) (kp' := [(0, 0, 0, 0), (0, 0, 0, 0), (0, 0, 0, 0), (0, 0, 0, 0)]) (eff := zs_eff) rfl (zr_reckon hW) (mi := 243) rfl (i := .invokevirtual 405) (len := 3) (pc := 86) (κ := (zs_B1 i c).2.1) (st := (zs_B1 i c).2.2.1) (cu := 0) (su := 0) (outs := [zs_OB1 i c]) (zh_oe (List.all_eq_true.mp zs_cB1 (i, c) hic)) (zs_hCL (86, .invokevirtual 405, 3, 0, []) (List.mem_of_getElem? (i := 56) rfl)) hext1 (zh_reb hG1 hp1) hS1 (fun ps hp => by rw [zh_p3 (x1 := 3) (x2 := 8) (x3 := 7) hp k01 e51 e61]; exact hAA1) (fun o ho N2 P2 F2 H2 locs2 ls2 sv2 ps2 rn2 hh2 hB2 hN2 hG2 hS2 => ?_)
    obtain rfl := List.mem_singleton.mp ho
    have hxt2 := hG2.2.2.2.2.2.2.1
    have hext2 : ∀ a t, P0 a = some t → P2 a = some t := fun a t h => hxt2 a t (hext1 a t h)
    have hef2 : zk_ef zs_eff [(a : Int), (182 + 900 * (i : Int) + 8 * (c : Int))] P0 G0 F2 := zh_ef hef1 hG2.2.2.2.2.2.2.2.1 hext1 zs_eok zs_eok
    have hp2 := hG2.2.2.2.2.2.2.2.2.2.1
    exact zh_tail hx hb hE hQ rfl zs_hCL (fuel := 400) (List.all_eq_true.mp zs_uB1 (i, c) hic) (zh_back hG2 hext1 hef2 (pa := []) (fun q hq => absurd hq List.not_mem_nil)) hS2
  · have k01 : N1[3]? = some (a : Int) := zh_pa hp1 (j := 0) (List.mem_of_getElem? (i := 0) rfl) rfl
    have k31 : N1[6]? = some (r : Int) := zh_pa hp1 (j := 3) (List.mem_of_getElem? (i := 3) rfl) rfl
    obtain ⟨cB1, nB1, fB1, oB1, pB1, qB1, -⟩ := zk_iarr hG1.2.2.2.2.1 (hext1 r 59 hr) (T := zt_types.getD 59 (0, 0, 0, [])) (by rw [hW.1]; rfl) (Or.inl rfl)
    obtain ⟨yB1, zB1⟩ := zh_same hef1 hr (by decide) hf oB1
    obtain ⟨v51, e51, l51, u51⟩ := zh_i hG1.1 (i := 8) rfl
    have t51 : (fB1 (180 + 900 * i + 2 + 8 * c + 3)).toInt = v51 := zh_elf hG1.2.2.1 (List.mem_of_getElem? (i := 4) rfl) (by omega) k31 oB1 rfl e51
    have q51 : (f (180 + 900 * i + 2 + 8 * c + 3)).toInt = v51 := by rw [← zB1 _ (by omega)]; exact t51
    obtain ⟨v61, e61, l61, u61⟩ := zh_i hG1.1 (i := 7) rfl
    have t61 : (fB1 (180 + 900 * i + 2 + 8 * c + 4)).toInt = v61 := zh_elf hG1.2.2.1 (List.mem_of_getElem? (i := 3) rfl) (by omega) k31 oB1 rfl e61
    have q61 : (f (180 + 900 * i + 2 + 8 * c + 4)).toInt = v61 := by rw [← zB1 _ (by omega)]; exact t61
    obtain ⟨v01, e01, l01, u01⟩ := zh_i hG1.1 (i := 9) rfl
    have t01 : (fB1 (180 + 900 * i + 2 + 8 * c)).toInt = v01 := zh_elf hG1.2.2.1 (List.mem_of_getElem? (i := 5) rfl) (by omega) k31 oB1 rfl e01
    have q01 : (f (180 + 900 * i + 2 + 8 * c)).toInt = v01 := by rw [← zB1 _ (by omega)]; exact t01
    have hAA1 : zr_A P1 F1 [(a : Int), v51, v61] := ⟨a, r, (180 + 900 * (i : Int)), v51, v61, cB1, nB1, fB1, rfl, hext1 a 13 ha, zh_keep hef1 ha (by decide) (by decide) h20, zh_keep hef1 ha (by decide) (by decide) h34, by omega, by omega, zh_keep hef1 ha (by decide) (by decide) h3, hext1 r 59 hr, oB1, by omega, fun hlt => by
      rw [show (180 + 900 * (i : Int)).toNat = 180 + 900 * i by omega]
      exact zh_crf zB1 hn (by omega) t51 (by omega) t61 (by omega) u61 ((hl c hc hcn).2 (by show (f (180 + 900 * i + 2 + 8 * c)).toInt ≠ 4; rw [q01]; omega))⟩
    refine zh_call hx hb hE (ps' := [(a : Int), (182 + 900 * (i : Int) + 8 * (c : Int)), (180 + 900 * (i : Int)), (r : Int)]) (kp' := [(0, 0, 0, 0), (0, 0, 0, 0), (0, 0, 0, 0), (0, 0, 0, 0)]) (eff := zs_eff) rfl (zr_reckon hW) (mi := 243) rfl (i := .invokevirtual 405) (len := 3) (pc := 86) (κ := (zs_B2 i c).2.1) (st := (zs_B2 i c).2.2.1) (cu := 0) (su := 0) (outs := [zs_OB2 i c]) (zh_oe (List.all_eq_true.mp zs_cB2 (i, c) hic)) (zs_hCL (86, .invokevirtual 405, 3, 0, []) (List.mem_of_getElem? (i := 56) rfl)) hext1 (zh_reb hG1 hp1) hS1 (fun ps hp => by rw [zh_p3 (x1 := 3) (x2 := 8) (x3 := 7) hp k01 e51 e61]; exact hAA1) (fun o ho N2 P2 F2 H2 locs2 ls2 sv2 ps2 rn2 hh2 hB2 hN2 hG2 hS2 => ?_)
    obtain rfl := List.mem_singleton.mp ho
    have hxt2 := hG2.2.2.2.2.2.2.1
    have hext2 : ∀ a t, P0 a = some t → P2 a = some t := fun a t h => hxt2 a t (hext1 a t h)
    have hef2 : zk_ef zs_eff [(a : Int), (182 + 900 * (i : Int) + 8 * (c : Int))] P0 G0 F2 := zh_ef hef1 hG2.2.2.2.2.2.2.2.1 hext1 zs_eok zs_eok
    have hp2 := hG2.2.2.2.2.2.2.2.2.2.1
    exact zh_tail hx hb hE hQ rfl zs_hCL (fuel := 400) (List.all_eq_true.mp zs_uB2 (i, c) hic) (zh_back hG2 hext1 hef2 (pa := []) (fun q hq => absurd hq List.not_mem_nil)) hS2
  · have k01 : N1[3]? = some (a : Int) := zh_pa hp1 (j := 0) (List.mem_of_getElem? (i := 0) rfl) rfl
    have k31 : N1[6]? = some (r : Int) := zh_pa hp1 (j := 3) (List.mem_of_getElem? (i := 3) rfl) rfl
    obtain ⟨cB1, nB1, fB1, oB1, pB1, qB1, -⟩ := zk_iarr hG1.2.2.2.2.1 (hext1 r 59 hr) (T := zt_types.getD 59 (0, 0, 0, [])) (by rw [hW.1]; rfl) (Or.inl rfl)
    obtain ⟨yB1, zB1⟩ := zh_same hef1 hr (by decide) hf oB1
    obtain ⟨v51, e51, l51, u51⟩ := zh_i hG1.1 (i := 8) rfl
    have t51 : (fB1 (180 + 900 * i + 2 + 8 * c + 5)).toInt = v51 := zh_elf hG1.2.2.1 (List.mem_of_getElem? (i := 4) rfl) (by omega) k31 oB1 rfl e51
    have q51 : (f (180 + 900 * i + 2 + 8 * c + 5)).toInt = v51 := by rw [← zB1 _ (by omega)]; exact t51
    obtain ⟨v61, e61, l61, u61⟩ := zh_i hG1.1 (i := 7) rfl
    have t61 : (fB1 (180 + 900 * i + 2 + 8 * c + 6)).toInt = v61 := zh_elf hG1.2.2.1 (List.mem_of_getElem? (i := 3) rfl) (by omega) k31 oB1 rfl e61
    have q61 : (f (180 + 900 * i + 2 + 8 * c + 6)).toInt = v61 := by rw [← zB1 _ (by omega)]; exact t61
    have hAA1 : zr_A P1 F1 [(a : Int), v51, v61] := ⟨a, r, (180 + 900 * (i : Int)), v51, v61, cB1, nB1, fB1, rfl, hext1 a 13 ha, zh_keep hef1 ha (by decide) (by decide) h20, zh_keep hef1 ha (by decide) (by decide) h34, by omega, by omega, zh_keep hef1 ha (by decide) (by decide) h3, hext1 r 59 hr, oB1, by omega, fun hlt => by
      rw [show (180 + 900 * (i : Int)).toNat = 180 + 900 * i by omega]
      exact zh_crf zB1 hn (by omega) t51 (by omega) t61 (by omega) u61 ((hl c hc hcn).1 (by show (f (180 + 900 * i + 2 + 8 * c + 5)).toInt < (f (180 + 900 * i + 2 + 8 * c + 6)).toInt; rw [q51, q61]; exact hlt))⟩
    refine zh_call hx hb hE (ps' := [(a : Int), (182 + 900 * (i : Int) + 8 * (c : Int)), (180 + 900 * (i : Int)), (r : Int)]) (kp' := [(0, 0, 0, 0), (0, 0, 0, 0), (0, 0, 0, 0), (0, 0, 0, 0)]) (eff := zs_eff) rfl (zr_reckon hW) (mi := 243) rfl (i := .invokevirtual 405) (len := 3) (pc := 38) (κ := (zs_B3 i c).2.1) (st := (zs_B3 i c).2.2.1) (cu := 0) (su := 0) (outs := [zs_O i c]) (zh_oe (List.all_eq_true.mp zs_c38 (i, c) hic)) (zs_hCL (38, .invokevirtual 405, 3, 0, []) (List.mem_of_getElem? (i := 26) rfl)) hext1 (zh_reb hG1 hp1) hS1 (fun ps hp => by rw [zh_p3 (x1 := 3) (x2 := 8) (x3 := 7) hp k01 e51 e61]; exact hAA1) (fun o ho N2 P2 F2 H2 locs2 ls2 sv2 ps2 rn2 hh2 hB2 hN2 hG2 hS2 => ?_)
    obtain rfl := List.mem_singleton.mp ho
    have hxt2 := hG2.2.2.2.2.2.2.1
    have hext2 : ∀ a t, P0 a = some t → P2 a = some t := fun a t h => hxt2 a t (hext1 a t h)
    have hef2 : zk_ef zs_eff [(a : Int), (182 + 900 * (i : Int) + 8 * (c : Int))] P0 G0 F2 := zh_ef hef1 hG2.2.2.2.2.2.2.2.1 hext1 zs_eok zs_eok
    have hp2 := hG2.2.2.2.2.2.2.2.2.2.1
    refine zh_seg hx hb hE (kp' := [(0, 0, 0, 0), (0, 0, 0, 0), (0, 0, 0, 0), (0, 0, 0, 0)]) (eff := zs_eff) rfl zs_hCL (AL := []) (AN := [zs_D0 i c, zs_D1 i c, zs_D2 i c, zs_D3 i c]) (fuel := 400) (pc := 41) (κ := zs_K41 i c) (by rw [List.all_nil, Bool.and_true]; exact zs_g1 hi hc) hext2 (zh_reb hG2 hp2) hS2 (fun A hA => Or.inr (fun N3 P3 F3 H3 locs3 ls3 sv3 hG3 hS3 => ?_))
    have hxt3 := hG3.2.2.2.2.2.2.1
    have hext3 : ∀ a t, P0 a = some t → P3 a = some t := fun a t h => hxt3 a t (hext2 a t h)
    have hef3 : zk_ef zs_eff [(a : Int), (182 + 900 * (i : Int) + 8 * (c : Int))] P0 G0 F3 := zh_ef hef2 hG3.2.2.2.2.2.2.2.1 hext2 zs_eok zs_eok
    have hp3 := hG3.2.2.2.2.2.2.2.2.2.1
    simp only [List.mem_cons, List.not_mem_nil, or_false] at hA
    rcases hA with rfl | rfl | rfl | rfl
    · exact zh_tail hx hb hE hQ rfl zs_hCL (fuel := 400) (List.all_eq_true.mp zs_tD0 (i, c) hic) (zh_back hG3 hext2 hef3 (pa := []) (fun q hq => absurd hq List.not_mem_nil)) hS3
    · exact zh_tail hx hb hE hQ rfl zs_hCL (fuel := 400) (List.all_eq_true.mp zs_tD1 (i, c) hic) (zh_back hG3 hext2 hef3 (pa := []) (fun q hq => absurd hq List.not_mem_nil)) hS3
    · have k03 : N3[3]? = some (a : Int) := zh_pa hp3 (j := 0) (List.mem_of_getElem? (i := 0) rfl) rfl
      have k33 : N3[6]? = some (r : Int) := zh_pa hp3 (j := 3) (List.mem_of_getElem? (i := 3) rfl) rfl
      obtain ⟨cB3, nB3, fB3, oB3, pB3, qB3, -⟩ := zk_iarr hG3.2.2.2.2.1 (hext3 r 59 hr) (T := zt_types.getD 59 (0, 0, 0, [])) (by rw [hW.1]; rfl) (Or.inl rfl)
      obtain ⟨yB3, zB3⟩ := zh_same hef3 hr (by decide) hf oB3
      obtain ⟨v53, e53, l53, u53⟩ := zh_i hG3.1 (i := 8) rfl
      have t53 : (fB3 (180 + 900 * i + 2 + 8 * c + 3)).toInt = v53 := zh_elf hG3.2.2.1 (List.mem_of_getElem? (i := 6) rfl) (by omega) k33 oB3 rfl e53
      have q53 : (f (180 + 900 * i + 2 + 8 * c + 3)).toInt = v53 := by rw [← zB3 _ (by omega)]; exact t53
      obtain ⟨v63, e63, l63, u63⟩ := zh_i hG3.1 (i := 7) rfl
      have t63 : (fB3 (180 + 900 * i + 2 + 8 * c + 4)).toInt = v63 := zh_elf hG3.2.2.1 (List.mem_of_getElem? (i := 5) rfl) (by omega) k33 oB3 rfl e63
      have q63 : (f (180 + 900 * i + 2 + 8 * c + 4)).toInt = v63 := by rw [← zB3 _ (by omega)]; exact t63
      obtain ⟨v03, e03, l03, u03⟩ := zh_i hG3.1 (i := 11) rfl
      have t03 : (fB3 (180 + 900 * i + 2 + 8 * c)).toInt = v03 := zh_elf hG3.2.2.1 (List.mem_of_getElem? (i := 7) rfl) (by omega) k33 oB3 rfl e03
      have q03 : (f (180 + 900 * i + 2 + 8 * c)).toInt = v03 := by rw [← zB3 _ (by omega)]; exact t03
      have hAA3 : zr_A P3 F3 [(a : Int), v53, v63] := ⟨a, r, (180 + 900 * (i : Int)), v53, v63, cB3, nB3, fB3, rfl, hext3 a 13 ha, zh_keep hef3 ha (by decide) (by decide) h20, zh_keep hef3 ha (by decide) (by decide) h34, by omega, by omega, zh_keep hef3 ha (by decide) (by decide) h3, hext3 r 59 hr, oB3, by omega, fun hlt => by
        rw [show (180 + 900 * (i : Int)).toNat = 180 + 900 * i by omega]
        exact zh_crf zB3 hn (by omega) t53 (by omega) t63 (by omega) u63 ((hl c hc hcn).2 (by show (f (180 + 900 * i + 2 + 8 * c)).toInt ≠ 4; rw [q03]; omega))⟩
      refine zh_call hx hb hE (ps' := [(a : Int), (182 + 900 * (i : Int) + 8 * (c : Int)), (180 + 900 * (i : Int)), (r : Int)]) (kp' := [(0, 0, 0, 0), (0, 0, 0, 0), (0, 0, 0, 0), (0, 0, 0, 0)]) (eff := zs_eff) rfl (zr_reckon hW) (mi := 243) rfl (i := .invokevirtual 405) (len := 3) (pc := 86) (κ := (zs_D2 i c).2.1) (st := (zs_D2 i c).2.2.1) (cu := 0) (su := 0) (outs := [zs_OD2 i c]) (zh_oe (List.all_eq_true.mp zs_cD2 (i, c) hic)) (zs_hCL (86, .invokevirtual 405, 3, 0, []) (List.mem_of_getElem? (i := 56) rfl)) hext3 (zh_reb hG3 hp3) hS3 (fun ps hp => by rw [zh_p3 (x1 := 3) (x2 := 8) (x3 := 7) hp k03 e53 e63]; exact hAA3) (fun o ho N4 P4 F4 H4 locs4 ls4 sv4 ps4 rn4 hh4 hB4 hN4 hG4 hS4 => ?_)
      obtain rfl := List.mem_singleton.mp ho
      have hxt4 := hG4.2.2.2.2.2.2.1
      have hext4 : ∀ a t, P0 a = some t → P4 a = some t := fun a t h => hxt4 a t (hext3 a t h)
      have hef4 : zk_ef zs_eff [(a : Int), (182 + 900 * (i : Int) + 8 * (c : Int))] P0 G0 F4 := zh_ef hef3 hG4.2.2.2.2.2.2.2.1 hext3 zs_eok zs_eok
      have hp4 := hG4.2.2.2.2.2.2.2.2.2.1
      exact zh_tail hx hb hE hQ rfl zs_hCL (fuel := 400) (List.all_eq_true.mp zs_uD2 (i, c) hic) (zh_back hG4 hext3 hef4 (pa := []) (fun q hq => absurd hq List.not_mem_nil)) hS4
    · have k03 : N3[3]? = some (a : Int) := zh_pa hp3 (j := 0) (List.mem_of_getElem? (i := 0) rfl) rfl
      have k33 : N3[6]? = some (r : Int) := zh_pa hp3 (j := 3) (List.mem_of_getElem? (i := 3) rfl) rfl
      obtain ⟨cB3, nB3, fB3, oB3, pB3, qB3, -⟩ := zk_iarr hG3.2.2.2.2.1 (hext3 r 59 hr) (T := zt_types.getD 59 (0, 0, 0, [])) (by rw [hW.1]; rfl) (Or.inl rfl)
      obtain ⟨yB3, zB3⟩ := zh_same hef3 hr (by decide) hf oB3
      obtain ⟨v53, e53, l53, u53⟩ := zh_i hG3.1 (i := 8) rfl
      have t53 : (fB3 (180 + 900 * i + 2 + 8 * c + 3)).toInt = v53 := zh_elf hG3.2.2.1 (List.mem_of_getElem? (i := 6) rfl) (by omega) k33 oB3 rfl e53
      have q53 : (f (180 + 900 * i + 2 + 8 * c + 3)).toInt = v53 := by rw [← zB3 _ (by omega)]; exact t53
      obtain ⟨v63, e63, l63, u63⟩ := zh_i hG3.1 (i := 7) rfl
      have t63 : (fB3 (180 + 900 * i + 2 + 8 * c + 4)).toInt = v63 := zh_elf hG3.2.2.1 (List.mem_of_getElem? (i := 5) rfl) (by omega) k33 oB3 rfl e63
      have q63 : (f (180 + 900 * i + 2 + 8 * c + 4)).toInt = v63 := by rw [← zB3 _ (by omega)]; exact t63
      obtain ⟨v03, e03, l03, u03⟩ := zh_i hG3.1 (i := 11) rfl
      have t03 : (fB3 (180 + 900 * i + 2 + 8 * c)).toInt = v03 := zh_elf hG3.2.2.1 (List.mem_of_getElem? (i := 7) rfl) (by omega) k33 oB3 rfl e03
      have q03 : (f (180 + 900 * i + 2 + 8 * c)).toInt = v03 := by rw [← zB3 _ (by omega)]; exact t03
      have hAA3 : zr_A P3 F3 [(a : Int), v53, v63] := ⟨a, r, (180 + 900 * (i : Int)), v53, v63, cB3, nB3, fB3, rfl, hext3 a 13 ha, zh_keep hef3 ha (by decide) (by decide) h20, zh_keep hef3 ha (by decide) (by decide) h34, by omega, by omega, zh_keep hef3 ha (by decide) (by decide) h3, hext3 r 59 hr, oB3, by omega, fun hlt => by
        rw [show (180 + 900 * (i : Int)).toNat = 180 + 900 * i by omega]
        exact zh_crf zB3 hn (by omega) t53 (by omega) t63 (by omega) u63 ((hl c hc hcn).2 (by show (f (180 + 900 * i + 2 + 8 * c)).toInt ≠ 4; rw [q03]; omega))⟩
      refine zh_call hx hb hE (ps' := [(a : Int), (182 + 900 * (i : Int) + 8 * (c : Int)), (180 + 900 * (i : Int)), (r : Int)]) (kp' := [(0, 0, 0, 0), (0, 0, 0, 0), (0, 0, 0, 0), (0, 0, 0, 0)]) (eff := zs_eff) rfl (zr_reckon hW) (mi := 243) rfl (i := .invokevirtual 405) (len := 3) (pc := 86) (κ := (zs_D3 i c).2.1) (st := (zs_D3 i c).2.2.1) (cu := 0) (su := 0) (outs := [zs_OD3 i c]) (zh_oe (List.all_eq_true.mp zs_cD3 (i, c) hic)) (zs_hCL (86, .invokevirtual 405, 3, 0, []) (List.mem_of_getElem? (i := 56) rfl)) hext3 (zh_reb hG3 hp3) hS3 (fun ps hp => by rw [zh_p3 (x1 := 3) (x2 := 8) (x3 := 7) hp k03 e53 e63]; exact hAA3) (fun o ho N4 P4 F4 H4 locs4 ls4 sv4 ps4 rn4 hh4 hB4 hN4 hG4 hS4 => ?_)
      obtain rfl := List.mem_singleton.mp ho
      have hxt4 := hG4.2.2.2.2.2.2.1
      have hext4 : ∀ a t, P0 a = some t → P4 a = some t := fun a t h => hxt4 a t (hext3 a t h)
      have hef4 : zk_ef zs_eff [(a : Int), (182 + 900 * (i : Int) + 8 * (c : Int))] P0 G0 F4 := zh_ef hef3 hG4.2.2.2.2.2.2.2.1 hext3 zs_eok zs_eok
      have hp4 := hG4.2.2.2.2.2.2.2.2.2.1
      exact zh_tail hx hb hE hQ rfl zs_hCL (fuel := 400) (List.all_eq_true.mp zs_uD3 (i, c) hic) (zh_back hG4 hext3 hef4 (pa := []) (fun q hq => absurd hq List.not_mem_nil)) hS4

