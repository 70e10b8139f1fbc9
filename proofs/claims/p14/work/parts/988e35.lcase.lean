/-! a case of the law -/
/-- case 35 -/
theorem zl_c35 {p : Program} {l : Launch} {e : Env} {s : State} {m : MethodId} {args : Array Value} {below : List Frame} {meth : Method} {c : Code} {Q : State → Prop} {w : zk_W} {b L : Nat} {xs : Nat → Int32} (hC : zl_C p s m args c w b L xs) {xa ma j : Nat} (hj : 6 * j + 5 < L) {P : Nat → Option Nat} {F : Nat → va_E} {H : Heap} {locs : List Loc} {cu su : Nat} {ls : Array Slot} (hl : lv_has ls 4 [(0, .ref b), (1, .ref xa), (2, .ref ma), (3, .int (nI (6 * j)))]) (hI : zl_I w s P F H locs) (h12 : P xa = some 12) (h13 : P ma = some 13) (hR : zl_R xa ma P (zp_n F)) (hf : cu + 16 ≤ 600000 ∧ su + 940 ≤ 7302250) (kk : ∀ (P' : Nat → Option Nat) (F' : Nat → va_E) (H' : Heap) (locs' : List Loc), zl_I w s P' F' H' locs' → P' xa = some 12 → P' ma = some 13 → zl_R xa ma P' (zp_n F') → W p l e room_1 s m args below meth c H' locs' (cu + 16) (su + 940) Q (F0 m 1372 ls [])) : W p l e room_1 s m args below meth c H locs cu su Q (F0 m 1211 ls []) := by
  have hW : zh_W w := hC.2.2.2.2.2.2.2.2.1
  obtain ⟨A9, Y9, F9, W9, B9, V9, m1, m2, m3, m4, m5, n1, np, Lw, h, hLf, he⟩ := hR
  obtain ⟨nu, ns, nl, ln, hn⟩ := zNum_i h he
  have hl0 := lv_at hl 0 rfl
  have hl1 := lv_at hl 1 rfl
  have hl2 := lv_at hl 2 rfl
  have hl3 := lv_at hl 3 rfl
  refine zl_this (pc := 1211) (k := 1) (i := 1) (a := xa) hC (zd_law20 (1211, .aload_n 1, 1, 0, []) (List.mem_of_getElem? (i := 7) rfl)) rfl hl1 ?_
  refine zl_arg (pc := 1212) (j := j) (k := 1) (n := 1) hC hI (by omega) (by decide) hl0 hl3 (zd_law20 (1212, .aload_n 0, 1, 0, []) (List.mem_of_getElem? (i := 8) rfl)) (zd_law20 (1213, .iload_n 3, 1, 0, []) (List.mem_of_getElem? (i := 9) rfl)) (zd_law20 (1214, .iconst 1, 1, 0, []) (List.mem_of_getElem? (i := 10) rfl)) (zd_law20 (1215, .iadd, 1, 0, []) (List.mem_of_getElem? (i := 11) rfl)) (zd_law20 (1216, .iaload, 1, 0, []) (List.mem_of_getElem? (i := 12) rfl)) ?_
  refine zl_callp (pc := 1217) (how := 0) (idx := 159) (mi := 169) (mcm := 16) (msm := 940) (pl := [1277, 115, 1278, 1279]) hC (zX_gt hW) (by decide +kernel) rfl (by decide +kernel) (zd_law20 (1217, .invokevirtual 159, 3, 0, []) (List.mem_of_getElem? (i := 13) rfl)) (zd_law20 (1220, .pop, 1, 0, []) (List.mem_of_getElem? (i := 14) rfl)) hI [(xa : Int), zl_y xs j 1] rfl ⟨zp_o2 h12, zl_yo, trivial⟩ trivial hl.1 hf (fun al1 hal1 rn1 P1 F1 H1 locs1 hx1 hI1 hfr1 hok1 hcs1 hB1 => ?_)
  have d2 := zMVc_fr m1 m2 hfr1 hx1 zEc_280
  have m4 := zMVr_kp m4 hfr1 hx1 (by decide +kernel)
  have h12 := hx1 _ _ h12
  have h13 := hx1 _ _ h13
  refine zl_this (pc := 1221) (k := 2) (i := 2) (a := ma) hC (zd_law20 (1221, .aload_n 2, 1, 0, []) (List.mem_of_getElem? (i := 15) rfl)) rfl hl2 ?_
  refine zl_arg (pc := 1222) (j := j) (k := 1) (n := 1) hC hI1 (by omega) (by decide) hl0 hl3 (zd_law20 (1222, .aload_n 0, 1, 0, []) (List.mem_of_getElem? (i := 16) rfl)) (zd_law20 (1223, .iload_n 3, 1, 0, []) (List.mem_of_getElem? (i := 17) rfl)) (zd_law20 (1224, .iconst 1, 1, 0, []) (List.mem_of_getElem? (i := 18) rfl)) (zd_law20 (1225, .iadd, 1, 0, []) (List.mem_of_getElem? (i := 19) rfl)) (zd_law20 (1226, .iaload, 1, 0, []) (List.mem_of_getElem? (i := 20) rfl)) ?_
  refine zl_callp (pc := 1227) (how := 0) (idx := 162) (mi := 274) (mcm := 0) (msm := 0) (pl := [1947, 128, 1948, 1949]) hC (zX_gm hW) (by decide +kernel) rfl (by decide +kernel) (zd_law20 (1227, .invokevirtual 162, 3, 0, []) (List.mem_of_getElem? (i := 21) rfl)) (zd_law20 (1230, .pop, 1, 0, []) (List.mem_of_getElem? (i := 22) rfl)) hI1 [(ma : Int), zl_y xs j 1] rfl ⟨zp_o2 h13, zl_yo, trivial⟩ trivial hl.1 hf (fun al2 hal2 rn2 P2 F2 H2 locs2 hx2 hI2 hfr2 hok2 hcs2 hB2 => ?_)
  obtain ⟨V8, d5, d6⟩ := zMVr_ask m4 hfr2 hx2 zEa_gm
  have e2 := zF_ask d6 (fun _ _ _ _ _ _ => rfl) (zFull_i h hLf he)
  have m1 := zMVc_fr d2 m2 hfr2 hx2 (by decide +kernel)
  have hR : zl_R xa ma P2 (zp_n F2) := ⟨A9, Y9, F9, _, B9, V8, m1, m2, m3, d5, m5, e2⟩
  have h12 := hx2 _ _ h12
  have h13 := hx2 _ _ h13
  refine lv_goto (pc := 1231) (tgt := 1372) hC.1 hC.2.1 (zd_law20 (1231, .goto 141, 3, 0, []) (List.mem_of_getElem? (i := 23) rfl)) (by decide) ?_
  exact kk P2 F2 H2 locs2 hI2 h12 h13 hR
