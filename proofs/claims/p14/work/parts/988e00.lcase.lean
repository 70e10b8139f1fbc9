/-! a case of the law -/
/-- case 0 -/
theorem zl_c0 {p : Program} {l : Launch} {e : Env} {s : State} {m : MethodId} {args : Array Value} {below : List Frame} {meth : Method} {c : Code} {Q : State → Prop} {w : zk_W} {b L : Nat} {xs : Nat → Int32} (hC : zl_C p s m args c w b L xs) {xa ma j : Nat} (hj : 6 * j + 5 < L) {P : Nat → Option Nat} {F : Nat → va_E} {H : Heap} {locs : List Loc} {cu su : Nat} {ls : Array Slot} (hl : lv_has ls 4 [(0, .ref b), (1, .ref xa), (2, .ref ma), (3, .int (nI (6 * j)))]) (hI : zl_I w s P F H locs) (h12 : P xa = some 12) (h13 : P ma = some 13) (hR : zl_R xa ma P (zp_n F)) (hf : cu + 16 ≤ 600000 ∧ su + 940 ≤ 7302250) (kk : ∀ (P' : Nat → Option Nat) (F' : Nat → va_E) (H' : Heap) (locs' : List Loc), zl_I w s P' F' H' locs' → P' xa = some 12 → P' ma = some 13 → zl_R xa ma P' (zp_n F') → W p l e room_1 s m args below meth c H' locs' (cu + 16) (su + 940) Q (F0 m 1372 ls [])) : W p l e room_1 s m args below meth c H locs cu su Q (F0 m 216 ls []) := by
  have hW : zh_W w := hC.2.2.2.2.2.2.2.2.1
  obtain ⟨A9, Y9, F9, W9, B9, V9, m1, m2, m3, m4, m5, n1, np, Lw, h, hLf, he⟩ := hR
  obtain ⟨nu, ns, nl, ln, hn⟩ := zNum_i h he
  have hl0 := lv_at hl 0 rfl
  have hl1 := lv_at hl 1 rfl
  have hl2 := lv_at hl 2 rfl
  have hl3 := lv_at hl 3 rfl
  refine zl_this (pc := 216) (k := 1) (i := 1) (a := xa) hC (zd_law0 (216, .aload_n 1, 1, 0, []) (List.mem_of_getElem? (i := 22) rfl)) rfl hl1 ?_
  refine zl_arg (pc := 217) (j := j) (k := 1) (n := 1) hC hI (by omega) (by decide) hl0 hl3 (zd_law0 (217, .aload_n 0, 1, 0, []) (List.mem_of_getElem? (i := 23) rfl)) (zd_law0 (218, .iload_n 3, 1, 0, []) (List.mem_of_getElem? (i := 24) rfl)) (zd_law0 (219, .iconst 1, 1, 0, []) (List.mem_of_getElem? (i := 25) rfl)) (zd_law0 (220, .iadd, 1, 0, []) (List.mem_of_getElem? (i := 26) rfl)) (zd_law0 (221, .iaload, 1, 0, []) (List.mem_of_getElem? (i := 27) rfl)) ?_
  refine zl_arg (pc := 222) (j := j) (k := 2) (n := 2) hC hI (by omega) (by decide) hl0 hl3 (zd_law0 (222, .aload_n 0, 1, 0, []) (List.mem_of_getElem? (i := 28) rfl)) (zd_law0 (223, .iload_n 3, 1, 0, []) (List.mem_of_getElem? (i := 29) rfl)) (zd_law0 (224, .iconst 2, 1, 0, []) (List.mem_of_getElem? (i := 30) rfl)) (zd_law0 (225, .iadd, 1, 0, []) (List.mem_of_getElem? (i := 31) rfl)) (zd_law0 (226, .iaload, 1, 0, []) (List.mem_of_getElem? (i := 32) rfl)) ?_
  refine zl_arg (pc := 227) (j := j) (k := 3) (n := 3) hC hI (by omega) (by decide) hl0 hl3 (zd_law0 (227, .aload_n 0, 1, 0, []) (List.mem_of_getElem? (i := 33) rfl)) (zd_law0 (228, .iload_n 3, 1, 0, []) (List.mem_of_getElem? (i := 34) rfl)) (zd_law0 (229, .iconst 3, 1, 0, []) (List.mem_of_getElem? (i := 35) rfl)) (zd_law0 (230, .iadd, 1, 0, []) (List.mem_of_getElem? (i := 36) rfl)) (zd_law0 (231, .iaload, 1, 0, []) (List.mem_of_getElem? (i := 37) rfl)) ?_
  refine zl_callp (pc := 232) (how := 0) (idx := 13) (mi := 14) (mcm := 16) (msm := 940) (pl := [601, 115, 602, 603]) hC (zX_roac hW A9 Y9 F9 W9) (by decide +kernel) rfl (by decide +kernel) (zd_law0 (232, .invokevirtual 13, 3, 0, []) (List.mem_of_getElem? (i := 38) rfl)) (zd_law0 (235, .pop, 1, 0, []) (List.mem_of_getElem? (i := 39) rfl)) hI [(xa : Int), zl_y xs j 1, zl_y xs j 2, zl_y xs j 3] rfl ⟨zp_o2 h12, zl_yo, zl_yo, zl_yo, trivial⟩ (zA_roac h hLf he hn m1 m2 (z0A m3)) hl.1 hf (fun al1 hal1 rn1 P1 F1 H1 locs1 hx1 hI1 hfr1 hok1 hcs1 hB1 => ?_)
  obtain ⟨d1, d2, d3⟩ := hB1
  have m4 := zMVr_kp m4 hfr1 hx1 (by decide +kernel)
  have h12 := hx1 _ _ h12
  have h13 := hx1 _ _ h13
  refine zl_this (pc := 236) (k := 2) (i := 2) (a := ma) hC (zd_law1 (236, .aload_n 2, 1, 0, []) (List.mem_of_getElem? (i := 0) rfl)) rfl hl2 ?_
  refine zl_arg (pc := 237) (j := j) (k := 1) (n := 1) hC hI1 (by omega) (by decide) hl0 hl3 (zd_law1 (237, .aload_n 0, 1, 0, []) (List.mem_of_getElem? (i := 1) rfl)) (zd_law1 (238, .iload_n 3, 1, 0, []) (List.mem_of_getElem? (i := 2) rfl)) (zd_law1 (239, .iconst 1, 1, 0, []) (List.mem_of_getElem? (i := 3) rfl)) (zd_law1 (240, .iadd, 1, 0, []) (List.mem_of_getElem? (i := 4) rfl)) (zd_law1 (241, .iaload, 1, 0, []) (List.mem_of_getElem? (i := 5) rfl)) ?_
  refine zl_arg (pc := 242) (j := j) (k := 2) (n := 2) hC hI1 (by omega) (by decide) hl0 hl3 (zd_law1 (242, .aload_n 0, 1, 0, []) (List.mem_of_getElem? (i := 6) rfl)) (zd_law1 (243, .iload_n 3, 1, 0, []) (List.mem_of_getElem? (i := 7) rfl)) (zd_law1 (244, .iconst 2, 1, 0, []) (List.mem_of_getElem? (i := 8) rfl)) (zd_law1 (245, .iadd, 1, 0, []) (List.mem_of_getElem? (i := 9) rfl)) (zd_law1 (246, .iaload, 1, 0, []) (List.mem_of_getElem? (i := 10) rfl)) ?_
  refine zl_arg (pc := 247) (j := j) (k := 3) (n := 3) hC hI1 (by omega) (by decide) hl0 hl3 (zd_law1 (247, .aload_n 0, 1, 0, []) (List.mem_of_getElem? (i := 11) rfl)) (zd_law1 (248, .iload_n 3, 1, 0, []) (List.mem_of_getElem? (i := 12) rfl)) (zd_law1 (249, .iconst 3, 1, 0, []) (List.mem_of_getElem? (i := 13) rfl)) (zd_law1 (250, .iadd, 1, 0, []) (List.mem_of_getElem? (i := 14) rfl)) (zd_law1 (251, .iaload, 1, 0, []) (List.mem_of_getElem? (i := 15) rfl)) ?_
  refine zl_callp (pc := 252) (how := 0) (idx := 17) (mi := 189) (mcm := 0) (msm := 0) (pl := [1581, 128, 1582, 1583]) hC (zX_roa hW B9 V9) (by decide +kernel) rfl (by decide +kernel) (zd_law1 (252, .invokevirtual 17, 3, 0, []) (List.mem_of_getElem? (i := 16) rfl)) (zd_law1 (255, .pop, 1, 0, []) (List.mem_of_getElem? (i := 17) rfl)) hI1 [(ma : Int), zl_y xs j 1, zl_y xs j 2, zl_y xs j 3] rfl ⟨zp_o2 h13, zl_yo, zl_yo, zl_yo, trivial⟩ (zA_roa h hLf he hn m4 (z0A m5)) hl.1 hf (fun al2 hal2 rn2 P2 F2 H2 locs2 hx2 hI2 hfr2 hok2 hcs2 hB2 => ?_)
  obtain ⟨d4, d5, d6⟩ := hB2
  obtain ⟨e1, e2⟩ := zP_roa (p1 := zl_y xs j 1) (p2 := zl_y xs j 2) (p3 := zl_y xs j 3) h hLf he
  have m1 := zMVc_fr d2 m2 hfr2 hx2 (by decide +kernel)
  have e3 : rn1 = rn2 := d3.trans (e1.trans d6.symm)
  have hR : zl_R xa ma P2 (zp_n F2) := ⟨A9, Y9, F9, _, B9, _, m1, m2, m3, d5, m5, e2⟩
  have h12 := hx2 _ _ h12
  have h13 := hx2 _ _ h13
  refine lv_goto (pc := 256) (tgt := 1372) hC.1 hC.2.1 (zd_law1 (256, .goto 1116, 3, 0, []) (List.mem_of_getElem? (i := 18) rfl)) (by decide) ?_
  exact kk P2 F2 H2 locs2 hI2 h12 h13 hR
