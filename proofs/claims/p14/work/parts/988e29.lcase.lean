/-! a case of the law -/
/-- case 29 -/
theorem zl_c29 {p : Program} {l : Launch} {e : Env} {s : State} {m : MethodId} {args : Array Value} {below : List Frame} {meth : Method} {c : Code} {Q : State → Prop} {w : zk_W} {b L : Nat} {xs : Nat → Int32} (hC : zl_C p s m args c w b L xs) {xa ma j : Nat} (hj : 6 * j + 5 < L) {P : Nat → Option Nat} {F : Nat → va_E} {H : Heap} {locs : List Loc} {cu su : Nat} {ls : Array Slot} (hl : lv_has ls 4 [(0, .ref b), (1, .ref xa), (2, .ref ma), (3, .int (nI (6 * j)))]) (hI : zl_I w s P F H locs) (h12 : P xa = some 12) (h13 : P ma = some 13) (hR : zl_R xa ma P (zp_n F)) (hf : cu + 16 ≤ 600000 ∧ su + 940 ≤ 7302250) (kk : ∀ (P' : Nat → Option Nat) (F' : Nat → va_E) (H' : Heap) (locs' : List Loc), zl_I w s P' F' H' locs' → P' xa = some 12 → P' ma = some 13 → zl_R xa ma P' (zp_n F') → W p l e room_1 s m args below meth c H' locs' (cu + 16) (su + 940) Q (F0 m 1372 ls [])) : W p l e room_1 s m args below meth c H locs cu su Q (F0 m 1053 ls []) := by
  have hW : zh_W w := hC.2.2.2.2.2.2.2.2.1
  obtain ⟨A9, Y9, F9, W9, B9, V9, m1, m2, m3, m4, m5, n1, np, Lw, h, hLf, he⟩ := hR
  obtain ⟨nu, ns, nl, ln, hn⟩ := zNum_i h he
  have hl0 := lv_at hl 0 rfl
  have hl1 := lv_at hl 1 rfl
  have hl2 := lv_at hl 2 rfl
  have hl3 := lv_at hl 3 rfl
  refine zl_this (pc := 1053) (k := 1) (i := 1) (a := xa) hC (zd_law17 (1053, .aload_n 1, 1, 0, []) (List.mem_of_getElem? (i := 5) rfl)) rfl hl1 ?_
  refine zl_arg (pc := 1054) (j := j) (k := 1) (n := 1) hC hI (by omega) (by decide) hl0 hl3 (zd_law17 (1054, .aload_n 0, 1, 0, []) (List.mem_of_getElem? (i := 6) rfl)) (zd_law17 (1055, .iload_n 3, 1, 0, []) (List.mem_of_getElem? (i := 7) rfl)) (zd_law17 (1056, .iconst 1, 1, 0, []) (List.mem_of_getElem? (i := 8) rfl)) (zd_law17 (1057, .iadd, 1, 0, []) (List.mem_of_getElem? (i := 9) rfl)) (zd_law17 (1058, .iaload, 1, 0, []) (List.mem_of_getElem? (i := 10) rfl)) ?_
  refine zl_arg (pc := 1059) (j := j) (k := 2) (n := 2) hC hI (by omega) (by decide) hl0 hl3 (zd_law17 (1059, .aload_n 0, 1, 0, []) (List.mem_of_getElem? (i := 11) rfl)) (zd_law17 (1060, .iload_n 3, 1, 0, []) (List.mem_of_getElem? (i := 12) rfl)) (zd_law17 (1061, .iconst 2, 1, 0, []) (List.mem_of_getElem? (i := 13) rfl)) (zd_law17 (1062, .iadd, 1, 0, []) (List.mem_of_getElem? (i := 14) rfl)) (zd_law17 (1063, .iaload, 1, 0, []) (List.mem_of_getElem? (i := 15) rfl)) ?_
  refine zl_callq (pc := 1064) (how := 0) (idx := 134) (mi := 150) (mcm := 16) (msm := 940) (pl := [1193, 115, 1194, 1195]) hC (zX_oddc hW A9 Y9 F9 W9 Lw) (by decide +kernel) rfl (by decide +kernel) (zd_law17 (1064, .invokevirtual 134, 3, 0, []) (List.mem_of_getElem? (i := 16) rfl)) (zd_law17 (1067, .pop2, 1, 0, []) (List.mem_of_getElem? (i := 17) rfl)) hI [(xa : Int), zl_y xs j 1, zl_y xs j 2] rfl ⟨zp_o2 h12, zl_yo, zl_yo, trivial⟩ (zA_oddc h hLf he hn m1 m2 (z0A m3)) hl.1 hf (fun al1 hal1 rn1 P1 F1 H1 locs1 hx1 hI1 hfr1 hok1 hcs1 hB1 => ?_)
  obtain ⟨d1, W8, d2, d7, d3⟩ := hB1
  have m4 := zMVr_kp m4 hfr1 hx1 (by decide +kernel)
  have h12 := hx1 _ _ h12
  have h13 := hx1 _ _ h13
  refine zl_this (pc := 1068) (k := 2) (i := 2) (a := ma) hC (zd_law17 (1068, .aload_n 2, 1, 0, []) (List.mem_of_getElem? (i := 18) rfl)) rfl hl2 ?_
  refine zl_arg (pc := 1069) (j := j) (k := 1) (n := 1) hC hI1 (by omega) (by decide) hl0 hl3 (zd_law17 (1069, .aload_n 0, 1, 0, []) (List.mem_of_getElem? (i := 19) rfl)) (zd_law17 (1070, .iload_n 3, 1, 0, []) (List.mem_of_getElem? (i := 20) rfl)) (zd_law17 (1071, .iconst 1, 1, 0, []) (List.mem_of_getElem? (i := 21) rfl)) (zd_law17 (1072, .iadd, 1, 0, []) (List.mem_of_getElem? (i := 22) rfl)) (zd_law17 (1073, .iaload, 1, 0, []) (List.mem_of_getElem? (i := 23) rfl)) ?_
  refine zl_arg (pc := 1074) (j := j) (k := 2) (n := 2) hC hI1 (by omega) (by decide) hl0 hl3 (zd_law17 (1074, .aload_n 0, 1, 0, []) (List.mem_of_getElem? (i := 24) rfl)) (zd_law17 (1075, .iload_n 3, 1, 0, []) (List.mem_of_getElem? (i := 25) rfl)) (zd_law17 (1076, .iconst 2, 1, 0, []) (List.mem_of_getElem? (i := 26) rfl)) (zd_law17 (1077, .iadd, 1, 0, []) (List.mem_of_getElem? (i := 27) rfl)) (zd_law17 (1078, .iaload, 1, 0, []) (List.mem_of_getElem? (i := 28) rfl)) ?_
  refine zl_callq (pc := 1079) (how := 0) (idx := 138) (mi := 265) (mcm := 0) (msm := 0) (pl := [1909, 128, 1910, 1911]) hC (zX_oddr hW B9 V9 Lw) (by decide +kernel) rfl (by decide +kernel) (zd_law17 (1079, .invokevirtual 138, 3, 0, []) (List.mem_of_getElem? (i := 29) rfl)) (zd_law17 (1082, .pop2, 1, 0, []) (List.mem_of_getElem? (i := 30) rfl)) hI1 [(ma : Int), zl_y xs j 1, zl_y xs j 2] rfl ⟨zp_o2 h13, zl_yo, zl_yo, trivial⟩ (zA_oddr h hLf he hn m4 (z0A m5)) hl.1 hf (fun al2 hal2 rn2 P2 F2 H2 locs2 hx2 hI2 hfr2 hok2 hcs2 hB2 => ?_)
  obtain ⟨d4, V8, d5, d8, d6⟩ := hB2
  have e2 := zF_ask2 d8 d7 (zFull_i h hLf he)
  have e3 : rn1 = rn2 := by
    rw [d3, d6, zy_od_q (zRr_q h.1)]
    rfl
  have m1 := zMVc_fr d2 m2 hfr2 hx2 (by decide +kernel)
  have hR : zl_R xa ma P2 (zp_n F2) := ⟨A9, Y9, F9, W8, B9, V8, m1, m2, m3, d5, m5, e2⟩
  have h12 := hx2 _ _ h12
  have h13 := hx2 _ _ h13
  refine lv_goto (pc := 1083) (tgt := 1372) hC.1 hC.2.1 (zd_law17 (1083, .goto 289, 3, 0, []) (List.mem_of_getElem? (i := 31) rfl)) (by decide) ?_
  exact kk P2 F2 H2 locs2 hI2 h12 h13 hR
