/-! a case of the law -/
/-- case 31 -/
theorem zl_c31 {p : Program} {l : Launch} {e : Env} {s : State} {m : MethodId} {args : Array Value} {below : List Frame} {meth : Method} {c : Code} {Q : State → Prop} {w : zk_W} {b L : Nat} {xs : Nat → Int32} (hC : zl_C p s m args c w b L xs) {xa ma j : Nat} (hj : 6 * j + 5 < L) {P : Nat → Option Nat} {F : Nat → va_E} {H : Heap} {locs : List Loc} {cu su : Nat} {ls : Array Slot} (hl : lv_has ls 4 [(0, .ref b), (1, .ref xa), (2, .ref ma), (3, .int (nI (6 * j)))]) (hI : zl_I w s P F H locs) (h12 : P xa = some 12) (h13 : P ma = some 13) (hR : zl_R xa ma P (zp_n F)) (hf : cu + 16 ≤ 600000 ∧ su + 940 ≤ 7302250) (kk : ∀ (P' : Nat → Option Nat) (F' : Nat → va_E) (H' : Heap) (locs' : List Loc), zl_I w s P' F' H' locs' → P' xa = some 12 → P' ma = some 13 → zl_R xa ma P' (zp_n F') → W p l e room_1 s m args below meth c H' locs' (cu + 16) (su + 940) Q (F0 m 1372 ls [])) : W p l e room_1 s m args below meth c H locs cu su Q (F0 m 1129 ls []) := by
  have hW : zh_W w := hC.2.2.2.2.2.2.2.2.1
  obtain ⟨A9, Y9, F9, W9, B9, V9, m1, m2, m3, m4, m5, n1, np, Lw, h, hLf, he⟩ := hR
  obtain ⟨nu, ns, nl, ln, hn⟩ := zNum_i h he
  have hl0 := lv_at hl 0 rfl
  have hl1 := lv_at hl 1 rfl
  have hl2 := lv_at hl 2 rfl
  have hl3 := lv_at hl 3 rfl
  refine zl_this (pc := 1129) (k := 1) (i := 1) (a := xa) hC (zd_law18 (1129, .aload_n 1, 1, 0, []) (List.mem_of_getElem? (i := 29) rfl)) rfl hl1 ?_
  refine zl_callp (pc := 1130) (how := 0) (idx := 143) (mi := 153) (mcm := 16) (msm := 940) (pl := [1208, 115, 1209, 1210]) hC (zX_fgtc hW A9 Y9 F9 W9) (by decide +kernel) rfl (by decide +kernel) (zd_law18 (1130, .invokevirtual 143, 3, 0, []) (List.mem_of_getElem? (i := 30) rfl)) (zd_law18 (1133, .pop, 1, 0, []) (List.mem_of_getElem? (i := 31) rfl)) hI [(xa : Int)] rfl ⟨zp_o2 h12, trivial⟩ (zA_fgtc h hLf he hn m1 m2 (z0A m3)) hl.1 hf (fun al1 hal1 rn1 P1 F1 H1 locs1 hx1 hI1 hfr1 hok1 hcs1 hB1 => ?_)
  obtain ⟨d1, d2, d3⟩ := hB1
  have m4 := zMVr_kp m4 hfr1 hx1 (by decide +kernel)
  have h12 := hx1 _ _ h12
  have h13 := hx1 _ _ h13
  refine zl_this (pc := 1134) (k := 2) (i := 2) (a := ma) hC (zd_law18 (1134, .aload_n 2, 1, 0, []) (List.mem_of_getElem? (i := 32) rfl)) rfl hl2 ?_
  refine zl_callp (pc := 1135) (how := 0) (idx := 146) (mi := 267) (mcm := 0) (msm := 0) (pl := [1919, 128, 1920, 1921]) hC (zX_fgt hW B9 V9) (by decide +kernel) rfl (by decide +kernel) (zd_law18 (1135, .invokevirtual 146, 3, 0, []) (List.mem_of_getElem? (i := 33) rfl)) (zd_law18 (1138, .pop, 1, 0, []) (List.mem_of_getElem? (i := 34) rfl)) hI1 [(ma : Int)] rfl ⟨zp_o2 h13, trivial⟩ (zA_fgt h hLf he hn m4 (z0A m5)) hl.1 hf (fun al2 hal2 rn2 P2 F2 H2 locs2 hx2 hI2 hfr2 hok2 hcs2 hB2 => ?_)
  obtain ⟨d4, d5, d6⟩ := hB2
  obtain ⟨e1, e2⟩ := zP_fgt h hLf he
  have m1 := zMVc_fr d2 m2 hfr2 hx2 (by decide +kernel)
  have e3 : rn1 = rn2 := d3.trans (e1.trans d6.symm)
  have hR : zl_R xa ma P2 (zp_n F2) := ⟨A9, Y9, F9, _, B9, _, m1, m2, m3, d5, m5, e2⟩
  have h12 := hx2 _ _ h12
  have h13 := hx2 _ _ h13
  refine lv_goto (pc := 1139) (tgt := 1372) hC.1 hC.2.1 (zd_law18 (1139, .goto 233, 3, 0, []) (List.mem_of_getElem? (i := 35) rfl)) (by decide) ?_
  exact kk P2 F2 H2 locs2 hI2 h12 h13 hR
