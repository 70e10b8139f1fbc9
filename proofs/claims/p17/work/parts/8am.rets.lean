/-! part 8am: the tape is empty behind row, law, orders -/
def zB_tp : zk_B := fun _ _ ps P' F' _ => ∃ tp : Nat, zp_n F' (zp_0 ps) 8 = (tp : Int) ∧ P' tp = some 7 ∧ zp_n F' tp 1 = 0
theorem zB_num {F : Nat → va_E} {a k : Nat} {v : Value} (h : zk_rd (F a) k = some v) : zp_n F a k = zp_num v := by
  unfold zp_n
  rw [h]
theorem zB_this {V : List zk_F} {N ps : List Int} {P : Nat → Option Nat} {t : Nat} (hV : zk_all2 (zk_ok P) V N) (hp : zk_pa N ps [(0, 3)]) (h3 : V[3]? = some (2, t, 0, 0)) : ∃ a : Nat, N[3]? = some (a : Int) ∧ zp_0 ps = a := by
  obtain ⟨a, h1, -⟩ := zh_r hV h3
  obtain ⟨n, h2, h4⟩ := hp _ (List.mem_singleton.mpr rfl)
  cases h1.symm.trans h2
  exact ⟨a, h1, zp_00 h4⟩
theorem zB_tp_ok {V : List zk_F} {N ps : List Int} {P P0 : Nat → Option Nat} {F G0 : Nat → va_E} {n : Int} (hV : zk_all2 (zk_ok P) V N) (hF : zk_fa V N P F [(3, 8, (4, 0)), (4, 1, (5, 0))]) (hp : zk_pa N ps [(0, 3)]) (h3 : V[3]? = some (2, 12, 0, 0)) (h4 : V[4]? = some (2, 7, 0, 0)) (h5 : V[5]? = some (0, 0, 0, 0)) : zB_tp P0 G0 ps P F n := by
  obtain ⟨a, ha, hps⟩ := zB_this hV hp h3
  obtain ⟨tp, htp, hq⟩ := zh_r hV h4
  obtain ⟨z, hz, z0, z1⟩ := zh_i hV h5
  obtain rfl : z = 0 := Int.le_antisymm z1 z0
  obtain ⟨v, hv, sv⟩ := zh_rdf hF (x := 3) (k := 8) List.mem_cons_self ha
  obtain ⟨v2, hv2, sv2⟩ := zh_rdf hF (x := 4) (k := 1) (List.mem_cons_of_mem _ List.mem_cons_self) htp
  have e1 := zh_vr sv h4 htp
  obtain ⟨e2, -⟩ := zh_vi sv2 h5 hz
  refine ⟨tp, ?_, hq, ?_⟩
  · rw [hps, zB_num hv, e1]
    rfl
  · rw [zB_num hv2, e2]
    decide
def zR_or_B : List zk_An := [(32, ([(0, 0, 0, 0), (1, 0, 0, 0), (2, 0, (-1), (-1)), (2, 12, 0, 0), (2, 7, 0, 0), (0, 0, 0, 0), (0, 0, (-2147483648), 2147483647)], [], [(3, 8, (4, 0)), (4, 1, (5, 0))], [], [], [(0, 3)], []), [(6, 0)], 0, 0, ((-1), [])), (135, ([(0, 0, 0, 0), (1, 0, 0, 0), (2, 0, (-1), (-1)), (2, 12, 0, 0), (2, 7, 0, 0), (0, 0, 0, 0), (0, 0, (-2147483648), 2147483647)], [], [(3, 8, (4, 0)), (4, 1, (5, 0))], [], [], [(0, 3)], []), [(6, 0)], 0, 0, ((-1), [])), (150, ([(0, 0, 0, 0), (1, 0, 0, 0), (2, 0, (-1), (-1)), (2, 12, 0, 0), (2, 7, 0, 0), (0, 0, 0, 0), (0, 0, (-2147483648), 2147483647)], [], [(3, 8, (4, 0)), (4, 1, (5, 0))], [], [], [(0, 3)], []), [(6, 0)], 0, 0, ((-1), []))]
theorem zq_or_B {l : Launch} {w : zk_W} (hW : zh_W w) : zk_metX l w zt_dv zt_TB zK_210 zk_tA zB_tp ∧ zk_cok w zt_TB zK_210 := zh_methB hW (lk := [(2, 76, 11, 9, 18), (2, 67, 11, 8, 18), (2, 193, 7, 1, 0), (2, 98, 11, 15, 0), (2, 83, 11, 10, 18), (2, 10, 11, 0, 18), (2, 135, 9, 18, 34), (2, 87, 11, 11, 18), (2, 23, 11, 2, 18), (2, 233, 11, 13, 0), (2, 94, 11, 14, 0), (2, 216, 5, 1, 34), (2, 236, 8, 6, 0)]) (KS := [zK_157, zK_13, zK_161, zK_162, zK_209, zK_14]) (km := [40, 16, 80, 81, 82, 17]) (lc := [(0, 208, 40), (0, 111, 16), (0, 226, 80), (0, 230, 81), (0, 239, 82), (0, 118, 17)]) (K := zK_210) (CL0 := zc_X11_orders) (ns := [(29, 1, []), (44, 2, []), (55, 3, []), (93, 4, []), (110, 2, []), (121, 3, []), (132, 1, []), (147, 5, [])]) (AL := [(70, ([(0, 0, 0, 0), (1, 0, 0, 0), (2, 0, (-1), (-1)), (2, 12, 0, 0), (0, 0, 0, 12), (2, 11, 0, 0), (2, 11, 0, 0), (2, 10, 0, 0), (2, 2, 0, 0), (2, 7, 0, 0), (2, 5, 0, 0), (2, 2, 0, 0)], [], [(3, 2, (5, 0)), (3, 11, (6, 0)), (3, 0, (7, 0)), (3, 10, (8, 0)), (3, 15, (0, (-1))), (3, 8, (9, 0)), (3, 9, (10, 0)), (7, 18, (11, 0)), (9, 1, (0, 0))], [], [(2, (4, 0)), (0, (3, 0))], [(0, 3)], []), [], 0, 0, (12, [((-1), 4)]))]) (RA := zR_or_B) (fuel := 350) (pl := 888) (by decide) rfl (by decide +kernel) (by decide +kernel) zd_X11_orders (by
  intro K h
  rcases List.mem_cons.mp h with rfl | h
  · exact zq_157 hW
  rcases List.mem_cons.mp h with rfl | h
  · exact zq_13 hW
  rcases List.mem_cons.mp h with rfl | h
  · exact zq_161 hW
  rcases List.mem_cons.mp h with rfl | h
  · exact zq_162 hW
  rcases List.mem_cons.mp h with rfl | h
  · exact zq_209 hW
  rw [List.mem_singleton.mp h]
  exact zq_14 hW) (by decide +kernel) (fun A hA => by
  have h : A.2.1.1 = [(0, 0, 0, 0), (1, 0, 0, 0), (2, 0, (-1), (-1)), (2, 12, 0, 0), (2, 7, 0, 0), (0, 0, 0, 0), (0, 0, (-2147483648), 2147483647)] ∧ A.2.1.2.2.1 = [(3, 8, (4, 0)), (4, 1, (5, 0))] ∧ A.2.1.2.2.2.2.2.1 = [(0, 3)] ∧ A.2.2.1 = [(6, 0)] ∧ decode zK_210.2.1 A.1 = .ok (.ireturn, 1) ∧ A.2.2.2.1 = 0 ∧ A.2.2.2.2.1 = 0 := by
    simp only [zR_or_B, List.mem_cons, List.not_mem_nil, or_false] at hA
    rcases hA with rfl | rfl | rfl <;> exact ⟨rfl, rfl, rfl, rfl, by decide +kernel, rfl, rfl⟩
  obtain ⟨h1, h2, h3, h4, h5, h6, h7⟩ := h
  refine ⟨6, 0, (-2147483648), 2147483647, h4, by rw [h1]; rfl, List.mem_singleton.mpr rfl, h5, by rw [h6]; exact Nat.le_refl _, by rw [h7]; exact Nat.le_refl _, fun P0 G0 ps N P F n a1 a2 a3 a4 => ?_⟩
  rw [h1] at a1 a2
  rw [h2] at a2
  rw [h3] at a3
  exact zB_tp_ok a1 a2 a3 rfl rfl rfl)