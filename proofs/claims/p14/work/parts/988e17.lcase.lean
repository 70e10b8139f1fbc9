/-! a case of the law -/
/-- case 17 -/
theorem zl_c17 {p : Program} {l : Launch} {e : Env} {s : State} {m : MethodId} {args : Array Value} {below : List Frame} {meth : Method} {c : Code} {Q : State → Prop} {w : zk_W} {b L : Nat} {xs : Nat → Int32} (hC : zl_C p s m args c w b L xs) {xa ma j : Nat} (hj : 6 * j + 5 < L) {P : Nat → Option Nat} {F : Nat → va_E} {H : Heap} {locs : List Loc} {cu su : Nat} {ls : Array Slot} (hl : lv_has ls 4 [(0, .ref b), (1, .ref xa), (2, .ref ma), (3, .int (nI (6 * j)))]) (hI : zl_I w s P F H locs) (h12 : P xa = some 12) (h13 : P ma = some 13) (hR : zl_R xa ma P (zp_n F)) (hf : cu + 16 ≤ 600000 ∧ su + 940 ≤ 7302250) (kk : ∀ (P' : Nat → Option Nat) (F' : Nat → va_E) (H' : Heap) (locs' : List Loc), zl_I w s P' F' H' locs' → P' xa = some 12 → P' ma = some 13 → zl_R xa ma P' (zp_n F') → W p l e room_1 s m args below meth c H' locs' (cu + 16) (su + 940) Q (F0 m 1372 ls [])) : W p l e room_1 s m args below meth c H locs cu su Q (F0 m 707 ls []) := by
  have hW : zh_W w := hC.2.2.2.2.2.2.2.2.1
  obtain ⟨A9, Y9, F9, W9, B9, V9, m1, m2, m3, m4, m5, n1, np, Lw, h, hLf, he⟩ := hR
  obtain ⟨nu, ns, nl, ln, hn⟩ := zNum_i h he
  have hl0 := lv_at hl 0 rfl
  have hl1 := lv_at hl 1 rfl
  have hl2 := lv_at hl 2 rfl
  have hl3 := lv_at hl 3 rfl
  refine zl_this (pc := 707) (k := 1) (i := 1) (a := xa) hC (zd_law10 (707, .aload_n 1, 1, 0, []) (List.mem_of_getElem? (i := 11) rfl)) rfl hl1 ?_
  refine zl_arg (pc := 708) (j := j) (k := 1) (n := 1) hC hI (by omega) (by decide) hl0 hl3 (zd_law10 (708, .aload_n 0, 1, 0, []) (List.mem_of_getElem? (i := 12) rfl)) (zd_law10 (709, .iload_n 3, 1, 0, []) (List.mem_of_getElem? (i := 13) rfl)) (zd_law10 (710, .iconst 1, 1, 0, []) (List.mem_of_getElem? (i := 14) rfl)) (zd_law10 (711, .iadd, 1, 0, []) (List.mem_of_getElem? (i := 15) rfl)) (zd_law10 (712, .iaload, 1, 0, []) (List.mem_of_getElem? (i := 16) rfl)) ?_
  refine zl_callp (pc := 713) (how := 0) (idx := 86) (mi := 120) (mcm := 16) (msm := 940) (pl := [1059, 115, 1060, 1061]) hC (zX_windc hW A9 Y9 F9 W9 Lw) (by decide +kernel) rfl (by decide +kernel) (zd_law10 (713, .invokevirtual 86, 3, 0, []) (List.mem_of_getElem? (i := 17) rfl)) (zd_law10 (716, .pop, 1, 0, []) (List.mem_of_getElem? (i := 18) rfl)) hI [(xa : Int), zl_y xs j 1] rfl ⟨zp_o2 h12, zl_yo, trivial⟩ (zA_windc h hLf he hn m1 m2 (z0A m3)) hl.1 hf (fun al1 hal1 rn1 P1 F1 H1 locs1 hx1 hI1 hfr1 hok1 hcs1 hB1 => ?_)
  obtain ⟨d1, d2, d3⟩ := hB1
  have m4 := zMVr_kp m4 hfr1 hx1 (by decide +kernel)
  have h12 := hx1 _ _ h12
  have h13 := hx1 _ _ h13
  refine zl_this (pc := 717) (k := 2) (i := 2) (a := ma) hC (zd_law10 (717, .aload_n 2, 1, 0, []) (List.mem_of_getElem? (i := 19) rfl)) rfl hl2 ?_
  refine zl_arg (pc := 718) (j := j) (k := 1) (n := 1) hC hI1 (by omega) (by decide) hl0 hl3 (zd_law10 (718, .aload_n 0, 1, 0, []) (List.mem_of_getElem? (i := 20) rfl)) (zd_law10 (719, .iload_n 3, 1, 0, []) (List.mem_of_getElem? (i := 21) rfl)) (zd_law10 (720, .iconst 1, 1, 0, []) (List.mem_of_getElem? (i := 22) rfl)) (zd_law10 (721, .iadd, 1, 0, []) (List.mem_of_getElem? (i := 23) rfl)) (zd_law10 (722, .iaload, 1, 0, []) (List.mem_of_getElem? (i := 24) rfl)) ?_
  refine zl_callp (pc := 723) (how := 0) (idx := 89) (mi := 275) (mcm := 0) (msm := 0) (pl := [1951, 128, 1952, 1953]) hC (zX_win hW B9 V9 nu Lw) (by decide +kernel) rfl (by decide +kernel) (zd_law10 (723, .invokevirtual 89, 3, 0, []) (List.mem_of_getElem? (i := 25) rfl)) (zd_law10 (726, .pop, 1, 0, []) (List.mem_of_getElem? (i := 26) rfl)) hI1 [(ma : Int), zl_y xs j 1] rfl ⟨zp_o2 h13, zl_yo, trivial⟩ (zA_win h hLf he hn m4 (z0A m5)) hl.1 hf (fun al2 hal2 rn2 P2 F2 H2 locs2 hx2 hI2 hfr2 hok2 hcs2 hB2 => ?_)
  obtain ⟨d4, d5, d6⟩ := hB2
  obtain ⟨e1, e2⟩ := zP_win (p1 := zl_y xs j 1) h hLf he hn.1.1 hn.1.2
  have m1 := zMVc_fr d2 m2 hfr2 hx2 (by decide +kernel)
  have e3 : rn1 = rn2 := d3.trans (e1.trans d6.symm)
  have hR : zl_R xa ma P2 (zp_n F2) := ⟨A9, Y9, F9, _, B9, _, m1, m2, m3, d5, m5, e2⟩
  have h12 := hx2 _ _ h12
  have h13 := hx2 _ _ h13
  refine lv_goto (pc := 727) (tgt := 1372) hC.1 hC.2.1 (zd_law10 (727, .goto 645, 3, 0, []) (List.mem_of_getElem? (i := 27) rfl)) (by decide) ?_
  exact kk P2 F2 H2 locs2 hI2 h12 h13 hR
