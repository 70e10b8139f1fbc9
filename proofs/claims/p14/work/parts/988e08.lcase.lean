/-! a case of the law -/
/-- case 8 -/
theorem zl_c8 {p : Program} {l : Launch} {e : Env} {s : State} {m : MethodId} {args : Array Value} {below : List Frame} {meth : Method} {c : Code} {Q : State → Prop} {w : zk_W} {b L : Nat} {xs : Nat → Int32} (hC : zl_C p s m args c w b L xs) {xa ma j : Nat} (hj : 6 * j + 5 < L) {P : Nat → Option Nat} {F : Nat → va_E} {H : Heap} {locs : List Loc} {cu su : Nat} {ls : Array Slot} (hl : lv_has ls 4 [(0, .ref b), (1, .ref xa), (2, .ref ma), (3, .int (nI (6 * j)))]) (hI : zl_I w s P F H locs) (h12 : P xa = some 12) (h13 : P ma = some 13) (hR : zl_R xa ma P (zp_n F)) (hf : cu + 16 ≤ 600000 ∧ su + 940 ≤ 7302250) (kk : ∀ (P' : Nat → Option Nat) (F' : Nat → va_E) (H' : Heap) (locs' : List Loc), zl_I w s P' F' H' locs' → P' xa = some 12 → P' ma = some 13 → zl_R xa ma P' (zp_n F') → W p l e room_1 s m args below meth c H' locs' (cu + 16) (su + 940) Q (F0 m 1372 ls [])) : W p l e room_1 s m args below meth c H locs cu su Q (F0 m 550 ls []) := by
  have hW : zh_W w := hC.2.2.2.2.2.2.2.2.1
  obtain ⟨A9, Y9, F9, W9, B9, V9, m1, m2, m3, m4, m5, n1, np, Lw, h, hLf, he⟩ := hR
  obtain ⟨nu, ns, nl, ln, hn⟩ := zNum_i h he
  have hl0 := lv_at hl 0 rfl
  have hl1 := lv_at hl 1 rfl
  have hl2 := lv_at hl 2 rfl
  have hl3 := lv_at hl 3 rfl
  refine zl_this (pc := 550) (k := 1) (i := 1) (a := xa) hC (zd_law7 (550, .aload_n 1, 1, 0, []) (List.mem_of_getElem? (i := 28) rfl)) rfl hl1 ?_
  refine zl_arg (pc := 551) (j := j) (k := 1) (n := 1) hC hI (by omega) (by decide) hl0 hl3 (zd_law7 (551, .aload_n 0, 1, 0, []) (List.mem_of_getElem? (i := 29) rfl)) (zd_law7 (552, .iload_n 3, 1, 0, []) (List.mem_of_getElem? (i := 30) rfl)) (zd_law7 (553, .iconst 1, 1, 0, []) (List.mem_of_getElem? (i := 31) rfl)) (zd_law7 (554, .iadd, 1, 0, []) (List.mem_of_getElem? (i := 32) rfl)) (zd_law7 (555, .iaload, 1, 0, []) (List.mem_of_getElem? (i := 33) rfl)) ?_
  refine zl_callp (pc := 556) (how := 0) (idx := 48) (mi := 34) (mcm := 16) (msm := 940) (pl := [681, 115, 682, 683]) hC (zX_et1 hW) (by decide +kernel) rfl (by decide +kernel) (zd_law7 (556, .invokevirtual 48, 3, 0, []) (List.mem_of_getElem? (i := 34) rfl)) (zd_law7 (559, .pop, 1, 0, []) (List.mem_of_getElem? (i := 35) rfl)) hI [(xa : Int), zl_y xs j 1] rfl ⟨zp_o2 h12, zl_yo, trivial⟩ trivial hl.1 hf (fun al1 hal1 rn1 P1 F1 H1 locs1 hx1 hI1 hfr1 hok1 hcs1 hB1 => ?_)
  have d3 := zC_et m1 m2 (show zp_0 [(xa : Int), zl_y xs j 1] = A9 0 from m3.symm) hB1
  have d2 := zMVc_fd m1 m2 hfr1 hx1 zEd_et
  have m4 := zMVr_kp m4 hfr1 hx1 (by decide +kernel)
  have h12 := hx1 _ _ h12
  have h13 := hx1 _ _ h13
  refine zl_this (pc := 560) (k := 2) (i := 2) (a := ma) hC (zd_law7 (560, .aload_n 2, 1, 0, []) (List.mem_of_getElem? (i := 36) rfl)) rfl hl2 ?_
  refine zl_arg (pc := 561) (j := j) (k := 1) (n := 1) hC hI1 (by omega) (by decide) hl0 hl3 (zd_law7 (561, .aload_n 0, 1, 0, []) (List.mem_of_getElem? (i := 37) rfl)) (zd_law7 (562, .iload_n 3, 1, 0, []) (List.mem_of_getElem? (i := 38) rfl)) (zd_law7 (563, .iconst 1, 1, 0, []) (List.mem_of_getElem? (i := 39) rfl)) (zd_law8 (564, .iadd, 1, 0, []) (List.mem_of_getElem? (i := 0) rfl)) (zd_law8 (565, .iaload, 1, 0, []) (List.mem_of_getElem? (i := 1) rfl)) ?_
  refine zl_callp (pc := 566) (how := 0) (idx := 52) (mi := 207) (mcm := 0) (msm := 0) (pl := [1661, 128, 1662, 1663]) hC (zX_en2 hW) (by decide +kernel) rfl (by decide +kernel) (zd_law8 (566, .invokevirtual 52, 3, 0, []) (List.mem_of_getElem? (i := 2) rfl)) (zd_law8 (569, .pop, 1, 0, []) (List.mem_of_getElem? (i := 3) rfl)) hI1 [(ma : Int), zl_y xs j 1] rfl ⟨zp_o2 h13, zl_yo, trivial⟩ trivial hl.1 hf (fun al2 hal2 rn2 P2 F2 H2 locs2 hx2 hI2 hfr2 hok2 hcs2 hB2 => ?_)
  obtain ⟨V8, d5, hV⟩ := zMVr_fd m4 hfr2 hx2 zEb_et
  have d6 := zR_et m4 d5 (show zp_0 [(ma : Int), zl_y xs j 1] = B9 0 from m5.symm) hB2
  obtain ⟨e3, e2⟩ := zP_et (zFull_i h hLf he) d3 d6 hV (fun o k h1 => if_neg (fun hm => h1 (List.mem_singleton.mp hm)))
  have m1 := zMVc_fr d2 m2 hfr2 hx2 (by decide +kernel)
  have hR : zl_R xa ma P2 (zp_n F2) := ⟨A9, Y9, F9, _, B9, V8, m1, m2, m3, d5, m5, e2⟩
  have h12 := hx2 _ _ h12
  have h13 := hx2 _ _ h13
  refine lv_goto (pc := 570) (tgt := 1372) hC.1 hC.2.1 (zd_law8 (570, .goto 802, 3, 0, []) (List.mem_of_getElem? (i := 4) rfl)) (by decide) ?_
  exact kk P2 F2 H2 locs2 hI2 h12 h13 hR
