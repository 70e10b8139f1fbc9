/-! a case of the law -/
/-- case 3 -/
theorem zl_c3 {p : Program} {l : Launch} {e : Env} {s : State} {m : MethodId} {args : Array Value} {below : List Frame} {meth : Method} {c : Code} {Q : State → Prop} {w : zk_W} {b L : Nat} {xs : Nat → Int32} (hC : zl_C p s m args c w b L xs) {xa ma j : Nat} (hj : 6 * j + 5 < L) {P : Nat → Option Nat} {F : Nat → va_E} {H : Heap} {locs : List Loc} {cu su : Nat} {ls : Array Slot} (hl : lv_has ls 4 [(0, .ref b), (1, .ref xa), (2, .ref ma), (3, .int (nI (6 * j)))]) (hI : zl_I w s P F H locs) (h12 : P xa = some 12) (h13 : P ma = some 13) (hR : zl_R xa ma P (zp_n F)) (hf : cu + 16 ≤ 600000 ∧ su + 940 ≤ 7302250) (kk : ∀ (P' : Nat → Option Nat) (F' : Nat → va_E) (H' : Heap) (locs' : List Loc), zl_I w s P' F' H' locs' → P' xa = some 12 → P' ma = some 13 → zl_R xa ma P' (zp_n F') → W p l e room_1 s m args below meth c H' locs' (cu + 16) (su + 940) Q (F0 m 1372 ls [])) : W p l e room_1 s m args below meth c H locs cu su Q (F0 m 325 ls []) := by
  have hW : zh_W w := hC.2.2.2.2.2.2.2.2.1
  obtain ⟨A9, Y9, F9, W9, B9, V9, m1, m2, m3, m4, m5, n1, np, Lw, h, hLf, he⟩ := hR
  obtain ⟨nu, ns, nl, ln, hn⟩ := zNum_i h he
  have hl0 := lv_at hl 0 rfl
  have hl1 := lv_at hl 1 rfl
  have hl2 := lv_at hl 2 rfl
  have hl3 := lv_at hl 3 rfl
  refine zl_this (pc := 325) (k := 1) (i := 1) (a := xa) hC (zd_law2 (325, .aload_n 1, 1, 0, []) (List.mem_of_getElem? (i := 33) rfl)) rfl hl1 ?_
  refine zl_arg (pc := 326) (j := j) (k := 1) (n := 1) hC hI (by omega) (by decide) hl0 hl3 (zd_law2 (326, .aload_n 0, 1, 0, []) (List.mem_of_getElem? (i := 34) rfl)) (zd_law2 (327, .iload_n 3, 1, 0, []) (List.mem_of_getElem? (i := 35) rfl)) (zd_law2 (328, .iconst 1, 1, 0, []) (List.mem_of_getElem? (i := 36) rfl)) (zd_law2 (329, .iadd, 1, 0, []) (List.mem_of_getElem? (i := 37) rfl)) (zd_law2 (330, .iaload, 1, 0, []) (List.mem_of_getElem? (i := 38) rfl)) ?_
  refine zl_arg (pc := 331) (j := j) (k := 2) (n := 2) hC hI (by omega) (by decide) hl0 hl3 (zd_law2 (331, .aload_n 0, 1, 0, []) (List.mem_of_getElem? (i := 39) rfl)) (zd_law3 (332, .iload_n 3, 1, 0, []) (List.mem_of_getElem? (i := 0) rfl)) (zd_law3 (333, .iconst 2, 1, 0, []) (List.mem_of_getElem? (i := 1) rfl)) (zd_law3 (334, .iadd, 1, 0, []) (List.mem_of_getElem? (i := 2) rfl)) (zd_law3 (335, .iaload, 1, 0, []) (List.mem_of_getElem? (i := 3) rfl)) ?_
  refine zl_callp (pc := 336) (how := 0) (idx := 27) (mi := 23) (mcm := 16) (msm := 940) (pl := [636, 115, 637, 638]) hC (zX_ofcc hW A9 Y9 F9 W9 n1) (by decide +kernel) rfl (by decide +kernel) (zd_law3 (336, .invokevirtual 27, 3, 0, []) (List.mem_of_getElem? (i := 4) rfl)) (zd_law3 (339, .pop, 1, 0, []) (List.mem_of_getElem? (i := 5) rfl)) hI [(xa : Int), zl_y xs j 1, zl_y xs j 2] rfl ⟨zp_o2 h12, zl_yo, zl_yo, trivial⟩ (zA_ofcc h hLf he hn m1 m2 (z0A m3)) hl.1 hf (fun al1 hal1 rn1 P1 F1 H1 locs1 hx1 hI1 hfr1 hok1 hcs1 hB1 => ?_)
  obtain ⟨d1, d2, d3⟩ := hB1
  have m4 := zMVr_kp m4 hfr1 hx1 (by decide +kernel)
  have h12 := hx1 _ _ h12
  have h13 := hx1 _ _ h13
  refine zl_this (pc := 340) (k := 2) (i := 2) (a := ma) hC (zd_law3 (340, .aload_n 2, 1, 0, []) (List.mem_of_getElem? (i := 6) rfl)) rfl hl2 ?_
  refine zl_arg (pc := 341) (j := j) (k := 1) (n := 1) hC hI1 (by omega) (by decide) hl0 hl3 (zd_law3 (341, .aload_n 0, 1, 0, []) (List.mem_of_getElem? (i := 7) rfl)) (zd_law3 (342, .iload_n 3, 1, 0, []) (List.mem_of_getElem? (i := 8) rfl)) (zd_law3 (343, .iconst 1, 1, 0, []) (List.mem_of_getElem? (i := 9) rfl)) (zd_law3 (344, .iadd, 1, 0, []) (List.mem_of_getElem? (i := 10) rfl)) (zd_law3 (345, .iaload, 1, 0, []) (List.mem_of_getElem? (i := 11) rfl)) ?_
  refine zl_arg (pc := 346) (j := j) (k := 2) (n := 2) hC hI1 (by omega) (by decide) hl0 hl3 (zd_law3 (346, .aload_n 0, 1, 0, []) (List.mem_of_getElem? (i := 12) rfl)) (zd_law3 (347, .iload_n 3, 1, 0, []) (List.mem_of_getElem? (i := 13) rfl)) (zd_law3 (348, .iconst 2, 1, 0, []) (List.mem_of_getElem? (i := 14) rfl)) (zd_law3 (349, .iadd, 1, 0, []) (List.mem_of_getElem? (i := 15) rfl)) (zd_law3 (350, .iaload, 1, 0, []) (List.mem_of_getElem? (i := 16) rfl)) ?_
  refine zl_callp (pc := 351) (how := 0) (idx := 30) (mi := 194) (mcm := 0) (msm := 0) (pl := [1604, 128, 1605, 1606]) hC (zX_ofr hW B9 V9 np n1) (by decide +kernel) rfl (by decide +kernel) (zd_law3 (351, .invokevirtual 30, 3, 0, []) (List.mem_of_getElem? (i := 17) rfl)) (zd_law3 (354, .pop, 1, 0, []) (List.mem_of_getElem? (i := 18) rfl)) hI1 [(ma : Int), zl_y xs j 1, zl_y xs j 2] rfl ⟨zp_o2 h13, zl_yo, zl_yo, trivial⟩ (zA_ofr h hLf he hn m4 (z0A m5)) hl.1 hf (fun al2 hal2 rn2 P2 F2 H2 locs2 hx2 hI2 hfr2 hok2 hcs2 hB2 => ?_)
  obtain ⟨d4, d5, d6⟩ := hB2
  obtain ⟨e1, e2⟩ := zP_of (p1 := zl_y xs j 1) (p2 := zl_y xs j 2) h hLf he
  have m1 := zMVc_fr d2 m2 hfr2 hx2 (by decide +kernel)
  have e3 : rn1 = rn2 := d3.trans (e1.trans d6.symm)
  have hR : zl_R xa ma P2 (zp_n F2) := ⟨A9, Y9, F9, _, B9, _, m1, m2, m3, d5, m5, e2⟩
  have h12 := hx2 _ _ h12
  have h13 := hx2 _ _ h13
  refine lv_goto (pc := 355) (tgt := 1372) hC.1 hC.2.1 (zd_law3 (355, .goto 1017, 3, 0, []) (List.mem_of_getElem? (i := 19) rfl)) (by decide) ?_
  exact kk P2 F2 H2 locs2 hI2 h12 h13 hR
