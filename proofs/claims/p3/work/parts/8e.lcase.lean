/-! part 8e: the law: its cases -/
/-- case 0 -/
theorem zl_c0 {p : Program} {l : Launch} {e : Env} {s : State} {m : MethodId} {args : Array Value} {below : List Frame} {meth : Method} {c : Code} {Q : State → Prop} {w : zk_W} {b L : Nat} {xs : Nat → Int32} (hC : zl_C p s m args c w b L xs) {xa ma j : Nat} (hj : 6 * j + 5 < L) {P : Nat → Option Nat} {F : Nat → va_E} {H : Heap} {locs : List Loc} {cu su : Nat} {ls : Array Slot} (hl : lv_has ls 4 [(0, .ref b), (1, .ref xa), (2, .ref ma), (3, .int (nI (6 * j)))]) (hI : zl_I w s P F H locs) (h12 : P xa = some 12) (h13 : P ma = some 13) (hR : zl_R xa ma P (zp_n F)) (hf : cu + 16 ≤ 600000 ∧ su + 940 ≤ 7302250) (kk : ∀ (P' : Nat → Option Nat) (F' : Nat → va_E) (H' : Heap) (locs' : List Loc), zl_I w s P' F' H' locs' → P' xa = some 12 → P' ma = some 13 → zl_R xa ma P' (zp_n F') → W p l e room_1 s m args below meth c H' locs' (cu + 16) (su + 940) Q (F0 m 1372 ls [])) : W p l e room_1 s m args below meth c H locs cu su Q (F0 m 216 ls []) := by
  have hW : zh_W w := hC.2.2.2.2.2.2.2.2.1
  have hl0 := lv_at hl 0 rfl
  have hl1 := lv_at hl 1 rfl
  have hl2 := lv_at hl 2 rfl
  have hl3 := lv_at hl 3 rfl
  refine zl_this (pc := 216) (k := 1) (i := 1) (a := xa) hC (zd_law0 (216, .aload_n 1, 1, 0, []) (List.mem_of_getElem? (i := 22) rfl)) rfl hl1 ?_
  refine zl_arg (pc := 217) (j := j) (k := 1) (n := 1) hC hI (by omega) (by decide) hl0 hl3 (zd_law0 (217, .aload_n 0, 1, 0, []) (List.mem_of_getElem? (i := 23) rfl)) (zd_law0 (218, .iload_n 3, 1, 0, []) (List.mem_of_getElem? (i := 24) rfl)) (zd_law0 (219, .iconst 1, 1, 0, []) (List.mem_of_getElem? (i := 25) rfl)) (zd_law0 (220, .iadd, 1, 0, []) (List.mem_of_getElem? (i := 26) rfl)) (zd_law0 (221, .iaload, 1, 0, []) (List.mem_of_getElem? (i := 27) rfl)) ?_
  refine zl_arg (pc := 222) (j := j) (k := 2) (n := 2) hC hI (by omega) (by decide) hl0 hl3 (zd_law0 (222, .aload_n 0, 1, 0, []) (List.mem_of_getElem? (i := 28) rfl)) (zd_law0 (223, .iload_n 3, 1, 0, []) (List.mem_of_getElem? (i := 29) rfl)) (zd_law0 (224, .iconst 2, 1, 0, []) (List.mem_of_getElem? (i := 30) rfl)) (zd_law0 (225, .iadd, 1, 0, []) (List.mem_of_getElem? (i := 31) rfl)) (zd_law0 (226, .iaload, 1, 0, []) (List.mem_of_getElem? (i := 32) rfl)) ?_
  refine zl_arg (pc := 227) (j := j) (k := 3) (n := 3) hC hI (by omega) (by decide) hl0 hl3 (zd_law0 (227, .aload_n 0, 1, 0, []) (List.mem_of_getElem? (i := 33) rfl)) (zd_law0 (228, .iload_n 3, 1, 0, []) (List.mem_of_getElem? (i := 34) rfl)) (zd_law0 (229, .iconst 3, 1, 0, []) (List.mem_of_getElem? (i := 35) rfl)) (zd_law0 (230, .iadd, 1, 0, []) (List.mem_of_getElem? (i := 36) rfl)) (zd_law0 (231, .iaload, 1, 0, []) (List.mem_of_getElem? (i := 37) rfl)) ?_
  refine zl_callp (pc := 232) (how := 0) (idx := 13) (mi := 14) (mcm := 16) (msm := 940) (pl := [601, 115, 602, 603]) hC (zp_plain (zq_15 hW)) (by decide +kernel) rfl (by decide +kernel) (zd_law0 (232, .invokevirtual 13, 3, 0, []) (List.mem_of_getElem? (i := 38) rfl)) (zd_law0 (235, .pop, 1, 0, []) (List.mem_of_getElem? (i := 39) rfl)) hI [(xa : Int), zl_y xs j 1, zl_y xs j 2, zl_y xs j 3] rfl ⟨zp_o2 h12, zl_yo, zl_yo, zl_yo, trivial⟩ trivial hl.1 hf (fun al1 hal1 rn1 P1 F1 H1 locs1 hx1 hI1 hfr1 hok1 hcs1 hB1 => ?_)
  have hR := zl_Rfr hR h12 h13 hx1 hfr1 (by decide +kernel)
  have h12 := hx1 _ _ h12
  have h13 := hx1 _ _ h13
  refine zl_this (pc := 236) (k := 2) (i := 2) (a := ma) hC (zd_law1 (236, .aload_n 2, 1, 0, []) (List.mem_of_getElem? (i := 0) rfl)) rfl hl2 ?_
  refine zl_arg (pc := 237) (j := j) (k := 1) (n := 1) hC hI1 (by omega) (by decide) hl0 hl3 (zd_law1 (237, .aload_n 0, 1, 0, []) (List.mem_of_getElem? (i := 1) rfl)) (zd_law1 (238, .iload_n 3, 1, 0, []) (List.mem_of_getElem? (i := 2) rfl)) (zd_law1 (239, .iconst 1, 1, 0, []) (List.mem_of_getElem? (i := 3) rfl)) (zd_law1 (240, .iadd, 1, 0, []) (List.mem_of_getElem? (i := 4) rfl)) (zd_law1 (241, .iaload, 1, 0, []) (List.mem_of_getElem? (i := 5) rfl)) ?_
  refine zl_arg (pc := 242) (j := j) (k := 2) (n := 2) hC hI1 (by omega) (by decide) hl0 hl3 (zd_law1 (242, .aload_n 0, 1, 0, []) (List.mem_of_getElem? (i := 6) rfl)) (zd_law1 (243, .iload_n 3, 1, 0, []) (List.mem_of_getElem? (i := 7) rfl)) (zd_law1 (244, .iconst 2, 1, 0, []) (List.mem_of_getElem? (i := 8) rfl)) (zd_law1 (245, .iadd, 1, 0, []) (List.mem_of_getElem? (i := 9) rfl)) (zd_law1 (246, .iaload, 1, 0, []) (List.mem_of_getElem? (i := 10) rfl)) ?_
  refine zl_arg (pc := 247) (j := j) (k := 3) (n := 3) hC hI1 (by omega) (by decide) hl0 hl3 (zd_law1 (247, .aload_n 0, 1, 0, []) (List.mem_of_getElem? (i := 11) rfl)) (zd_law1 (248, .iload_n 3, 1, 0, []) (List.mem_of_getElem? (i := 12) rfl)) (zd_law1 (249, .iconst 3, 1, 0, []) (List.mem_of_getElem? (i := 13) rfl)) (zd_law1 (250, .iadd, 1, 0, []) (List.mem_of_getElem? (i := 14) rfl)) (zd_law1 (251, .iaload, 1, 0, []) (List.mem_of_getElem? (i := 15) rfl)) ?_
  refine zl_callp (pc := 252) (how := 0) (idx := 17) (mi := 189) (mcm := 0) (msm := 0) (pl := [1581, 128, 1582, 1583]) hC (zp_plain (zq_1007 hW)) (by decide +kernel) rfl (by decide +kernel) (zd_law1 (252, .invokevirtual 17, 3, 0, []) (List.mem_of_getElem? (i := 16) rfl)) (zd_law1 (255, .pop, 1, 0, []) (List.mem_of_getElem? (i := 17) rfl)) hI1 [(ma : Int), zl_y xs j 1, zl_y xs j 2, zl_y xs j 3] rfl ⟨zp_o2 h13, zl_yo, zl_yo, zl_yo, trivial⟩ trivial hl.1 hf (fun al2 hal2 rn2 P2 F2 H2 locs2 hx2 hI2 hfr2 hok2 hcs2 hB2 => ?_)
  have hR := zl_Rfr hR h12 h13 hx2 hfr2 (by decide +kernel)
  have h12 := hx2 _ _ h12
  have h13 := hx2 _ _ h13
  refine lv_goto (pc := 256) (tgt := 1372) hC.1 hC.2.1 (zd_law1 (256, .goto 1116, 3, 0, []) (List.mem_of_getElem? (i := 18) rfl)) (by decide) ?_
  exact kk P2 F2 H2 locs2 hI2 h12 h13 hR
/-- case 1 -/
theorem zl_c1 {p : Program} {l : Launch} {e : Env} {s : State} {m : MethodId} {args : Array Value} {below : List Frame} {meth : Method} {c : Code} {Q : State → Prop} {w : zk_W} {b L : Nat} {xs : Nat → Int32} (hC : zl_C p s m args c w b L xs) {xa ma j : Nat} (hj : 6 * j + 5 < L) {P : Nat → Option Nat} {F : Nat → va_E} {H : Heap} {locs : List Loc} {cu su : Nat} {ls : Array Slot} (hl : lv_has ls 4 [(0, .ref b), (1, .ref xa), (2, .ref ma), (3, .int (nI (6 * j)))]) (hI : zl_I w s P F H locs) (h12 : P xa = some 12) (h13 : P ma = some 13) (hR : zl_R xa ma P (zp_n F)) (hf : cu + 16 ≤ 600000 ∧ su + 940 ≤ 7302250) (kk : ∀ (P' : Nat → Option Nat) (F' : Nat → va_E) (H' : Heap) (locs' : List Loc), zl_I w s P' F' H' locs' → P' xa = some 12 → P' ma = some 13 → zl_R xa ma P' (zp_n F') → W p l e room_1 s m args below meth c H' locs' (cu + 16) (su + 940) Q (F0 m 1372 ls [])) : W p l e room_1 s m args below meth c H locs cu su Q (F0 m 259 ls []) := by
  have hW : zh_W w := hC.2.2.2.2.2.2.2.2.1
  have hl0 := lv_at hl 0 rfl
  have hl1 := lv_at hl 1 rfl
  have hl2 := lv_at hl 2 rfl
  have hl3 := lv_at hl 3 rfl
  refine zl_this (pc := 259) (k := 1) (i := 1) (a := xa) hC (zd_law1 (259, .aload_n 1, 1, 0, []) (List.mem_of_getElem? (i := 19) rfl)) rfl hl1 ?_
  refine zl_arg (pc := 260) (j := j) (k := 1) (n := 1) hC hI (by omega) (by decide) hl0 hl3 (zd_law1 (260, .aload_n 0, 1, 0, []) (List.mem_of_getElem? (i := 20) rfl)) (zd_law1 (261, .iload_n 3, 1, 0, []) (List.mem_of_getElem? (i := 21) rfl)) (zd_law1 (262, .iconst 1, 1, 0, []) (List.mem_of_getElem? (i := 22) rfl)) (zd_law1 (263, .iadd, 1, 0, []) (List.mem_of_getElem? (i := 23) rfl)) (zd_law1 (264, .iaload, 1, 0, []) (List.mem_of_getElem? (i := 24) rfl)) ?_
  refine zl_arg (pc := 265) (j := j) (k := 2) (n := 2) hC hI (by omega) (by decide) hl0 hl3 (zd_law1 (265, .aload_n 0, 1, 0, []) (List.mem_of_getElem? (i := 25) rfl)) (zd_law1 (266, .iload_n 3, 1, 0, []) (List.mem_of_getElem? (i := 26) rfl)) (zd_law1 (267, .iconst 2, 1, 0, []) (List.mem_of_getElem? (i := 27) rfl)) (zd_law1 (268, .iadd, 1, 0, []) (List.mem_of_getElem? (i := 28) rfl)) (zd_law1 (269, .iaload, 1, 0, []) (List.mem_of_getElem? (i := 29) rfl)) ?_
  refine zl_call (rest := []) (pc := 270) (how := 0) (idx := 18) (mi := 18) (mcm := 16) (msm := 940) (pl := [616, 115, 617, 618]) hC 0 (zX_pes hW) (by decide +kernel) rfl (by decide +kernel) (zd_law1 (270, .invokevirtual 18, 3, 0, []) (List.mem_of_getElem? (i := 30) rfl)) hI [(xa : Int), zl_y xs j 1, zl_y xs j 2] rfl ⟨zp_o2 h12, zl_yo, zl_yo, trivial⟩ trivial hl.1 (Nat.zero_le 8) hf (fun al1 hal1 rn1 P1 F1 H1 locs1 hx1 hI1 hfr1 hok1 hcs1 hB1 => ?_)
  obtain ⟨tn, im, tp, tb, rw_, ri, kp, mt, hS, hc, hd, ht, hi⟩ := hR
  have hS1 := zl_Sfr hS h12 h13 hx1 hfr1 (by decide +kernel)
  have hd1 := zl_dfr h12 h13 hd hfr1 (by decide +kernel)
  have ht1 := zl_tfr hS h13 ht hfr1 (by decide +kernel)
  have hi1 := zl_ifr hS hi hx1 hfr1 (by decide +kernel)
  have x13 : zp_n F1 tn 3 = zp_n F tn 3 := zp_nf hfr1 hS.1.2 (by decide +kernel)
  have x19 : zp_n F1 tn 9 = zp_n F tn 9 := zp_nf hfr1 hS.1.2 (by decide +kernel)
  have y10 : zp_n F1 rw_ (2000 + 0) = zp_n F rw_ (2000 + 0) := zp_ne hfr1 hS.2.2.2.2.1.2 (by decide +kernel)
  have y11 : zp_n F1 rw_ (2000 + 1) = zp_n F rw_ (2000 + 1) := zp_ne hfr1 hS.2.2.2.2.1.2 (by decide +kernel)
  have y12 : zp_n F1 rw_ (2000 + 2) = zp_n F rw_ (2000 + 2) := zp_ne hfr1 hS.2.2.2.2.1.2 (by decide +kernel)
  have b1 : (¬ (0 ≤ zl_y xs j 1 ∧ zl_y xs j 1 ≤ 9 ∧ 0 ≤ zl_y xs j 2 ∧ zl_y xs j 2 ≤ 7) → rn1 = -1 ∧ zp_n F1 (zp_n F xa 0).toNat 1 = zp_n F (zp_n F xa 0).toNat 1) ∧ ((0 ≤ zl_y xs j 1 ∧ zl_y xs j 1 ≤ 9 ∧ 0 ≤ zl_y xs j 2 ∧ zl_y xs j 2 ≤ 7) ∧ 6 ≤ zp_n F (zp_n F xa 0).toNat 1 → rn1 = -5 ∧ zp_n F1 (zp_n F xa 0).toNat 1 = zp_n F (zp_n F xa 0).toNat 1) ∧ ((0 ≤ zl_y xs j 1 ∧ zl_y xs j 1 ≤ 9 ∧ 0 ≤ zl_y xs j 2 ∧ zl_y xs j 2 ≤ 7) ∧ zp_n F (zp_n F xa 0).toNat 1 < 6 → rn1 = zp_n F (zp_n F xa 0).toNat 1 ∧ zp_n F1 (zp_n F xa 0).toNat 1 = zp_n F (zp_n F xa 0).toNat 1 + 1) := hB1
  rw [hS.1.1, Int.toNat_natCast] at b1
  have h12 := hx1 _ _ h12
  have h13 := hx1 _ _ h13
  refine zl_this (pc := 273) (k := 2) (i := 2) (a := ma) hC (zd_law1 (273, .aload_n 2, 1, 0, []) (List.mem_of_getElem? (i := 31) rfl)) rfl hl2 ?_
  refine zl_arg (pc := 274) (j := j) (k := 1) (n := 1) hC hI1 (by omega) (by decide) hl0 hl3 (zd_law1 (274, .aload_n 0, 1, 0, []) (List.mem_of_getElem? (i := 32) rfl)) (zd_law1 (275, .iload_n 3, 1, 0, []) (List.mem_of_getElem? (i := 33) rfl)) (zd_law1 (276, .iconst 1, 1, 0, []) (List.mem_of_getElem? (i := 34) rfl)) (zd_law1 (277, .iadd, 1, 0, []) (List.mem_of_getElem? (i := 35) rfl)) (zd_law1 (278, .iaload, 1, 0, []) (List.mem_of_getElem? (i := 36) rfl)) ?_
  refine zl_arg (pc := 279) (j := j) (k := 2) (n := 2) hC hI1 (by omega) (by decide) hl0 hl3 (zd_law1 (279, .aload_n 0, 1, 0, []) (List.mem_of_getElem? (i := 37) rfl)) (zd_law1 (280, .iload_n 3, 1, 0, []) (List.mem_of_getElem? (i := 38) rfl)) (zd_law1 (281, .iconst 2, 1, 0, []) (List.mem_of_getElem? (i := 39) rfl)) (zd_law2 (282, .iadd, 1, 0, []) (List.mem_of_getElem? (i := 0) rfl)) (zd_law2 (283, .iaload, 1, 0, []) (List.mem_of_getElem? (i := 1) rfl)) ?_
  refine zl_call (rest := [zk_mk 0 rn1]) (pc := 284) (how := 0) (idx := 22) (mi := 191) (mcm := 0) (msm := 0) (pl := [1591, 128, 1592, 1593]) hC 0 (zX_mpe hW) (by decide +kernel) rfl (by decide +kernel) (zd_law2 (284, .invokevirtual 22, 3, 0, []) (List.mem_of_getElem? (i := 2) rfl)) hI1 [(ma : Int), zl_y xs j 1, zl_y xs j 2] rfl ⟨zp_o2 h13, zl_yo, zl_yo, trivial⟩ trivial hl.1 (by show 1 + 0 ≤ 8; decide) hf (fun al2 hal2 rn2 P2 F2 H2 locs2 hx2 hI2 hfr2 hok2 hcs2 hB2 => ?_)
  have hS2 := zl_Sfr hS1 h12 h13 hx2 hfr2 (by decide +kernel)
  have hd2 := zl_dfr h12 h13 hd1 hfr2 (by decide +kernel)
  have ht2 := zl_tfr hS1 h13 ht1 hfr2 (by decide +kernel)
  have hi2 := zl_ifr hS1 hi1 hx2 hfr2 (by decide +kernel)
  have x21 : zp_n F2 tn 1 = zp_n F1 tn 1 := zp_nf hfr2 hS1.1.2 (by decide +kernel)
  have x23 : zp_n F2 tn 3 = zp_n F1 tn 3 := zp_nf hfr2 hS1.1.2 (by decide +kernel)
  have x29 : zp_n F2 tn 9 = zp_n F1 tn 9 := zp_nf hfr2 hS1.1.2 (by decide +kernel)
  have y21 : zp_n F2 rw_ (2000 + 1) = zp_n F1 rw_ (2000 + 1) := zp_ne hfr2 hS1.2.2.2.2.1.2 (by decide +kernel)
  have y22 : zp_n F2 rw_ (2000 + 2) = zp_n F1 rw_ (2000 + 2) := zp_ne hfr2 hS1.2.2.2.2.1.2 (by decide +kernel)
  have b2 : (¬ (0 ≤ zl_y xs j 1 ∧ zl_y xs j 1 ≤ 9 ∧ 0 ≤ zl_y xs j 2 ∧ zl_y xs j 2 ≤ 7) → rn2 = -1 ∧ zp_n F2 (zp_n F1 ma 3).toNat (2000 + 0) = zp_n F1 (zp_n F1 ma 3).toNat (2000 + 0)) ∧ ((0 ≤ zl_y xs j 1 ∧ zl_y xs j 1 ≤ 9 ∧ 0 ≤ zl_y xs j 2 ∧ zl_y xs j 2 ≤ 7) ∧ 6 ≤ zp_n F1 (zp_n F1 ma 3).toNat (2000 + 0) → rn2 = -5 ∧ zp_n F2 (zp_n F1 ma 3).toNat (2000 + 0) = zp_n F1 (zp_n F1 ma 3).toNat (2000 + 0)) ∧ ((0 ≤ zl_y xs j 1 ∧ zl_y xs j 1 ≤ 9 ∧ 0 ≤ zl_y xs j 2 ∧ zl_y xs j 2 ≤ 7) ∧ zp_n F1 (zp_n F1 ma 3).toNat (2000 + 0) < 6 → rn2 = zp_n F1 (zp_n F1 ma 3).toNat (2000 + 0) ∧ zp_n F2 (zp_n F1 ma 3).toNat (2000 + 0) = zp_n F1 (zp_n F1 ma 3).toNat (2000 + 0) + 1) := hB2
  rw [hS1.2.2.2.2.1.1, Int.toNat_natCast] at b2
  obtain ⟨c0, c1, c2⟩ := hc
  have e3 : rn1 = rn2 := by omega
  have hc2 : zl_c tn rw_ (zp_n F2) := ⟨by omega, by omega, by omega⟩
  have hR : zl_R xa ma P2 (zp_n F2) := ⟨tn, im, tp, tb, rw_, ri, kp, mt, hS2, hc2, hd2, ht2, hi2⟩
  have h12 := hx2 _ _ h12
  have h13 := hx2 _ _ h13
  refine lv_icmp_eq (pc := 287) (tgt := 1372) hC.1 hC.2.1 (zd_law2 (287, .if_icmp .eq 1085, 3, 0, []) (List.mem_of_getElem? (i := 3) rfl)) (by decide) (fun _ => ?_) (fun h => absurd (by rw [e3]) h)
  exact kk P2 F2 H2 locs2 hI2 h12 h13 hR
/-- case 2 -/
theorem zl_c2 {p : Program} {l : Launch} {e : Env} {s : State} {m : MethodId} {args : Array Value} {below : List Frame} {meth : Method} {c : Code} {Q : State → Prop} {w : zk_W} {b L : Nat} {xs : Nat → Int32} (hC : zl_C p s m args c w b L xs) {xa ma j : Nat} (hj : 6 * j + 5 < L) {P : Nat → Option Nat} {F : Nat → va_E} {H : Heap} {locs : List Loc} {cu su : Nat} {ls : Array Slot} (hl : lv_has ls 4 [(0, .ref b), (1, .ref xa), (2, .ref ma), (3, .int (nI (6 * j)))]) (hI : zl_I w s P F H locs) (h12 : P xa = some 12) (h13 : P ma = some 13) (hR : zl_R xa ma P (zp_n F)) (hf : cu + 16 ≤ 600000 ∧ su + 940 ≤ 7302250) (kk : ∀ (P' : Nat → Option Nat) (F' : Nat → va_E) (H' : Heap) (locs' : List Loc), zl_I w s P' F' H' locs' → P' xa = some 12 → P' ma = some 13 → zl_R xa ma P' (zp_n F') → W p l e room_1 s m args below meth c H' locs' (cu + 16) (su + 940) Q (F0 m 1372 ls [])) : W p l e room_1 s m args below meth c H locs cu su Q (F0 m 292 ls []) := by
  have hW : zh_W w := hC.2.2.2.2.2.2.2.2.1
  have hl0 := lv_at hl 0 rfl
  have hl1 := lv_at hl 1 rfl
  have hl2 := lv_at hl 2 rfl
  have hl3 := lv_at hl 3 rfl
  refine zl_this (pc := 292) (k := 1) (i := 1) (a := xa) hC (zd_law2 (292, .aload_n 1, 1, 0, []) (List.mem_of_getElem? (i := 6) rfl)) rfl hl1 ?_
  refine zl_arg (pc := 293) (j := j) (k := 1) (n := 1) hC hI (by omega) (by decide) hl0 hl3 (zd_law2 (293, .aload_n 0, 1, 0, []) (List.mem_of_getElem? (i := 7) rfl)) (zd_law2 (294, .iload_n 3, 1, 0, []) (List.mem_of_getElem? (i := 8) rfl)) (zd_law2 (295, .iconst 1, 1, 0, []) (List.mem_of_getElem? (i := 9) rfl)) (zd_law2 (296, .iadd, 1, 0, []) (List.mem_of_getElem? (i := 10) rfl)) (zd_law2 (297, .iaload, 1, 0, []) (List.mem_of_getElem? (i := 11) rfl)) ?_
  refine zl_arg (pc := 298) (j := j) (k := 2) (n := 2) hC hI (by omega) (by decide) hl0 hl3 (zd_law2 (298, .aload_n 0, 1, 0, []) (List.mem_of_getElem? (i := 12) rfl)) (zd_law2 (299, .iload_n 3, 1, 0, []) (List.mem_of_getElem? (i := 13) rfl)) (zd_law2 (300, .iconst 2, 1, 0, []) (List.mem_of_getElem? (i := 14) rfl)) (zd_law2 (301, .iadd, 1, 0, []) (List.mem_of_getElem? (i := 15) rfl)) (zd_law2 (302, .iaload, 1, 0, []) (List.mem_of_getElem? (i := 16) rfl)) ?_
  refine zl_callp (pc := 303) (how := 0) (idx := 23) (mi := 21) (mcm := 16) (msm := 940) (pl := [628, 115, 629, 630]) hC (zp_plain (zq_20 hW)) (by decide +kernel) rfl (by decide +kernel) (zd_law2 (303, .invokevirtual 23, 3, 0, []) (List.mem_of_getElem? (i := 17) rfl)) (zd_law2 (306, .pop, 1, 0, []) (List.mem_of_getElem? (i := 18) rfl)) hI [(xa : Int), zl_y xs j 1, zl_y xs j 2] rfl ⟨zp_o2 h12, zl_yo, zl_yo, trivial⟩ trivial hl.1 hf (fun al1 hal1 rn1 P1 F1 H1 locs1 hx1 hI1 hfr1 hok1 hcs1 hB1 => ?_)
  have hR := zl_Rfr hR h12 h13 hx1 hfr1 (by decide +kernel)
  have h12 := hx1 _ _ h12
  have h13 := hx1 _ _ h13
  refine zl_this (pc := 307) (k := 2) (i := 2) (a := ma) hC (zd_law2 (307, .aload_n 2, 1, 0, []) (List.mem_of_getElem? (i := 19) rfl)) rfl hl2 ?_
  refine zl_arg (pc := 308) (j := j) (k := 1) (n := 1) hC hI1 (by omega) (by decide) hl0 hl3 (zd_law2 (308, .aload_n 0, 1, 0, []) (List.mem_of_getElem? (i := 20) rfl)) (zd_law2 (309, .iload_n 3, 1, 0, []) (List.mem_of_getElem? (i := 21) rfl)) (zd_law2 (310, .iconst 1, 1, 0, []) (List.mem_of_getElem? (i := 22) rfl)) (zd_law2 (311, .iadd, 1, 0, []) (List.mem_of_getElem? (i := 23) rfl)) (zd_law2 (312, .iaload, 1, 0, []) (List.mem_of_getElem? (i := 24) rfl)) ?_
  refine zl_arg (pc := 313) (j := j) (k := 2) (n := 2) hC hI1 (by omega) (by decide) hl0 hl3 (zd_law2 (313, .aload_n 0, 1, 0, []) (List.mem_of_getElem? (i := 25) rfl)) (zd_law2 (314, .iload_n 3, 1, 0, []) (List.mem_of_getElem? (i := 26) rfl)) (zd_law2 (315, .iconst 2, 1, 0, []) (List.mem_of_getElem? (i := 27) rfl)) (zd_law2 (316, .iadd, 1, 0, []) (List.mem_of_getElem? (i := 28) rfl)) (zd_law2 (317, .iaload, 1, 0, []) (List.mem_of_getElem? (i := 29) rfl)) ?_
  refine zl_callp (pc := 318) (how := 0) (idx := 26) (mi := 192) (mcm := 0) (msm := 0) (pl := [1596, 128, 1597, 1598]) hC (zp_plain (zq_1019 hW)) (by decide +kernel) rfl (by decide +kernel) (zd_law2 (318, .invokevirtual 26, 3, 0, []) (List.mem_of_getElem? (i := 30) rfl)) (zd_law2 (321, .pop, 1, 0, []) (List.mem_of_getElem? (i := 31) rfl)) hI1 [(ma : Int), zl_y xs j 1, zl_y xs j 2] rfl ⟨zp_o2 h13, zl_yo, zl_yo, trivial⟩ trivial hl.1 hf (fun al2 hal2 rn2 P2 F2 H2 locs2 hx2 hI2 hfr2 hok2 hcs2 hB2 => ?_)
  have hR := zl_Rfr hR h12 h13 hx2 hfr2 (by decide +kernel)
  have h12 := hx2 _ _ h12
  have h13 := hx2 _ _ h13
  refine lv_goto (pc := 322) (tgt := 1372) hC.1 hC.2.1 (zd_law2 (322, .goto 1050, 3, 0, []) (List.mem_of_getElem? (i := 32) rfl)) (by decide) ?_
  exact kk P2 F2 H2 locs2 hI2 h12 h13 hR
/-- case 3 -/
theorem zl_c3 {p : Program} {l : Launch} {e : Env} {s : State} {m : MethodId} {args : Array Value} {below : List Frame} {meth : Method} {c : Code} {Q : State → Prop} {w : zk_W} {b L : Nat} {xs : Nat → Int32} (hC : zl_C p s m args c w b L xs) {xa ma j : Nat} (hj : 6 * j + 5 < L) {P : Nat → Option Nat} {F : Nat → va_E} {H : Heap} {locs : List Loc} {cu su : Nat} {ls : Array Slot} (hl : lv_has ls 4 [(0, .ref b), (1, .ref xa), (2, .ref ma), (3, .int (nI (6 * j)))]) (hI : zl_I w s P F H locs) (h12 : P xa = some 12) (h13 : P ma = some 13) (hR : zl_R xa ma P (zp_n F)) (hf : cu + 16 ≤ 600000 ∧ su + 940 ≤ 7302250) (kk : ∀ (P' : Nat → Option Nat) (F' : Nat → va_E) (H' : Heap) (locs' : List Loc), zl_I w s P' F' H' locs' → P' xa = some 12 → P' ma = some 13 → zl_R xa ma P' (zp_n F') → W p l e room_1 s m args below meth c H' locs' (cu + 16) (su + 940) Q (F0 m 1372 ls [])) : W p l e room_1 s m args below meth c H locs cu su Q (F0 m 325 ls []) := by
  have hW : zh_W w := hC.2.2.2.2.2.2.2.2.1
  have hl0 := lv_at hl 0 rfl
  have hl1 := lv_at hl 1 rfl
  have hl2 := lv_at hl 2 rfl
  have hl3 := lv_at hl 3 rfl
  refine zl_this (pc := 325) (k := 1) (i := 1) (a := xa) hC (zd_law2 (325, .aload_n 1, 1, 0, []) (List.mem_of_getElem? (i := 33) rfl)) rfl hl1 ?_
  refine zl_arg (pc := 326) (j := j) (k := 1) (n := 1) hC hI (by omega) (by decide) hl0 hl3 (zd_law2 (326, .aload_n 0, 1, 0, []) (List.mem_of_getElem? (i := 34) rfl)) (zd_law2 (327, .iload_n 3, 1, 0, []) (List.mem_of_getElem? (i := 35) rfl)) (zd_law2 (328, .iconst 1, 1, 0, []) (List.mem_of_getElem? (i := 36) rfl)) (zd_law2 (329, .iadd, 1, 0, []) (List.mem_of_getElem? (i := 37) rfl)) (zd_law2 (330, .iaload, 1, 0, []) (List.mem_of_getElem? (i := 38) rfl)) ?_
  refine zl_arg (pc := 331) (j := j) (k := 2) (n := 2) hC hI (by omega) (by decide) hl0 hl3 (zd_law2 (331, .aload_n 0, 1, 0, []) (List.mem_of_getElem? (i := 39) rfl)) (zd_law3 (332, .iload_n 3, 1, 0, []) (List.mem_of_getElem? (i := 0) rfl)) (zd_law3 (333, .iconst 2, 1, 0, []) (List.mem_of_getElem? (i := 1) rfl)) (zd_law3 (334, .iadd, 1, 0, []) (List.mem_of_getElem? (i := 2) rfl)) (zd_law3 (335, .iaload, 1, 0, []) (List.mem_of_getElem? (i := 3) rfl)) ?_
  refine zl_callp (pc := 336) (how := 0) (idx := 27) (mi := 23) (mcm := 16) (msm := 940) (pl := [636, 115, 637, 638]) hC (zp_plain (zq_24 hW)) (by decide +kernel) rfl (by decide +kernel) (zd_law3 (336, .invokevirtual 27, 3, 0, []) (List.mem_of_getElem? (i := 4) rfl)) (zd_law3 (339, .pop, 1, 0, []) (List.mem_of_getElem? (i := 5) rfl)) hI [(xa : Int), zl_y xs j 1, zl_y xs j 2] rfl ⟨zp_o2 h12, zl_yo, zl_yo, trivial⟩ trivial hl.1 hf (fun al1 hal1 rn1 P1 F1 H1 locs1 hx1 hI1 hfr1 hok1 hcs1 hB1 => ?_)
  have hR := zl_Rfr hR h12 h13 hx1 hfr1 (by decide +kernel)
  have h12 := hx1 _ _ h12
  have h13 := hx1 _ _ h13
  refine zl_this (pc := 340) (k := 2) (i := 2) (a := ma) hC (zd_law3 (340, .aload_n 2, 1, 0, []) (List.mem_of_getElem? (i := 6) rfl)) rfl hl2 ?_
  refine zl_arg (pc := 341) (j := j) (k := 1) (n := 1) hC hI1 (by omega) (by decide) hl0 hl3 (zd_law3 (341, .aload_n 0, 1, 0, []) (List.mem_of_getElem? (i := 7) rfl)) (zd_law3 (342, .iload_n 3, 1, 0, []) (List.mem_of_getElem? (i := 8) rfl)) (zd_law3 (343, .iconst 1, 1, 0, []) (List.mem_of_getElem? (i := 9) rfl)) (zd_law3 (344, .iadd, 1, 0, []) (List.mem_of_getElem? (i := 10) rfl)) (zd_law3 (345, .iaload, 1, 0, []) (List.mem_of_getElem? (i := 11) rfl)) ?_
  refine zl_arg (pc := 346) (j := j) (k := 2) (n := 2) hC hI1 (by omega) (by decide) hl0 hl3 (zd_law3 (346, .aload_n 0, 1, 0, []) (List.mem_of_getElem? (i := 12) rfl)) (zd_law3 (347, .iload_n 3, 1, 0, []) (List.mem_of_getElem? (i := 13) rfl)) (zd_law3 (348, .iconst 2, 1, 0, []) (List.mem_of_getElem? (i := 14) rfl)) (zd_law3 (349, .iadd, 1, 0, []) (List.mem_of_getElem? (i := 15) rfl)) (zd_law3 (350, .iaload, 1, 0, []) (List.mem_of_getElem? (i := 16) rfl)) ?_
  refine zl_callp (pc := 351) (how := 0) (idx := 30) (mi := 194) (mcm := 0) (msm := 0) (pl := [1604, 128, 1605, 1606]) hC (zp_plain (zq_1025 hW)) (by decide +kernel) rfl (by decide +kernel) (zd_law3 (351, .invokevirtual 30, 3, 0, []) (List.mem_of_getElem? (i := 17) rfl)) (zd_law3 (354, .pop, 1, 0, []) (List.mem_of_getElem? (i := 18) rfl)) hI1 [(ma : Int), zl_y xs j 1, zl_y xs j 2] rfl ⟨zp_o2 h13, zl_yo, zl_yo, trivial⟩ trivial hl.1 hf (fun al2 hal2 rn2 P2 F2 H2 locs2 hx2 hI2 hfr2 hok2 hcs2 hB2 => ?_)
  have hR := zl_Rfr hR h12 h13 hx2 hfr2 (by decide +kernel)
  have h12 := hx2 _ _ h12
  have h13 := hx2 _ _ h13
  refine lv_goto (pc := 355) (tgt := 1372) hC.1 hC.2.1 (zd_law3 (355, .goto 1017, 3, 0, []) (List.mem_of_getElem? (i := 19) rfl)) (by decide) ?_
  exact kk P2 F2 H2 locs2 hI2 h12 h13 hR
/-- case 4 -/
theorem zl_c4 {p : Program} {l : Launch} {e : Env} {s : State} {m : MethodId} {args : Array Value} {below : List Frame} {meth : Method} {c : Code} {Q : State → Prop} {w : zk_W} {b L : Nat} {xs : Nat → Int32} (hC : zl_C p s m args c w b L xs) {xa ma j : Nat} (hj : 6 * j + 5 < L) {P : Nat → Option Nat} {F : Nat → va_E} {H : Heap} {locs : List Loc} {cu su : Nat} {ls : Array Slot} (hl : lv_has ls 4 [(0, .ref b), (1, .ref xa), (2, .ref ma), (3, .int (nI (6 * j)))]) (hI : zl_I w s P F H locs) (h12 : P xa = some 12) (h13 : P ma = some 13) (hR : zl_R xa ma P (zp_n F)) (hf : cu + 16 ≤ 600000 ∧ su + 940 ≤ 7302250) (kk : ∀ (P' : Nat → Option Nat) (F' : Nat → va_E) (H' : Heap) (locs' : List Loc), zl_I w s P' F' H' locs' → P' xa = some 12 → P' ma = some 13 → zl_R xa ma P' (zp_n F') → W p l e room_1 s m args below meth c H' locs' (cu + 16) (su + 940) Q (F0 m 1372 ls [])) : W p l e room_1 s m args below meth c H locs cu su Q (F0 m 358 ls []) := by
  have hW : zh_W w := hC.2.2.2.2.2.2.2.2.1
  have hl0 := lv_at hl 0 rfl
  have hl1 := lv_at hl 1 rfl
  have hl2 := lv_at hl 2 rfl
  have hl3 := lv_at hl 3 rfl
  refine zl_this (pc := 358) (k := 1) (i := 1) (a := xa) hC (zd_law3 (358, .aload_n 1, 1, 0, []) (List.mem_of_getElem? (i := 20) rfl)) rfl hl1 ?_
  refine zl_arg (pc := 359) (j := j) (k := 1) (n := 1) hC hI (by omega) (by decide) hl0 hl3 (zd_law3 (359, .aload_n 0, 1, 0, []) (List.mem_of_getElem? (i := 21) rfl)) (zd_law3 (360, .iload_n 3, 1, 0, []) (List.mem_of_getElem? (i := 22) rfl)) (zd_law3 (361, .iconst 1, 1, 0, []) (List.mem_of_getElem? (i := 23) rfl)) (zd_law3 (362, .iadd, 1, 0, []) (List.mem_of_getElem? (i := 24) rfl)) (zd_law3 (363, .iaload, 1, 0, []) (List.mem_of_getElem? (i := 25) rfl)) ?_
  refine zl_arg (pc := 364) (j := j) (k := 2) (n := 2) hC hI (by omega) (by decide) hl0 hl3 (zd_law3 (364, .aload_n 0, 1, 0, []) (List.mem_of_getElem? (i := 26) rfl)) (zd_law3 (365, .iload_n 3, 1, 0, []) (List.mem_of_getElem? (i := 27) rfl)) (zd_law3 (366, .iconst 2, 1, 0, []) (List.mem_of_getElem? (i := 28) rfl)) (zd_law3 (367, .iadd, 1, 0, []) (List.mem_of_getElem? (i := 29) rfl)) (zd_law3 (368, .iaload, 1, 0, []) (List.mem_of_getElem? (i := 30) rfl)) ?_
  refine zl_arg (pc := 369) (j := j) (k := 3) (n := 3) hC hI (by omega) (by decide) hl0 hl3 (zd_law3 (369, .aload_n 0, 1, 0, []) (List.mem_of_getElem? (i := 31) rfl)) (zd_law3 (370, .iload_n 3, 1, 0, []) (List.mem_of_getElem? (i := 32) rfl)) (zd_law3 (371, .iconst 3, 1, 0, []) (List.mem_of_getElem? (i := 33) rfl)) (zd_law3 (372, .iadd, 1, 0, []) (List.mem_of_getElem? (i := 34) rfl)) (zd_law3 (373, .iaload, 1, 0, []) (List.mem_of_getElem? (i := 35) rfl)) ?_
  refine zl_arg (pc := 374) (j := j) (k := 4) (n := 4) hC hI (by omega) (by decide) hl0 hl3 (zd_law3 (374, .aload_n 0, 1, 0, []) (List.mem_of_getElem? (i := 36) rfl)) (zd_law3 (375, .iload_n 3, 1, 0, []) (List.mem_of_getElem? (i := 37) rfl)) (zd_law3 (376, .iconst 4, 1, 0, []) (List.mem_of_getElem? (i := 38) rfl)) (zd_law3 (377, .iadd, 1, 0, []) (List.mem_of_getElem? (i := 39) rfl)) (zd_law4 (378, .iaload, 1, 0, []) (List.mem_of_getElem? (i := 0) rfl)) ?_
  refine zl_arg (pc := 379) (j := j) (k := 5) (n := 5) hC hI (by omega) (by decide) hl0 hl3 (zd_law4 (379, .aload_n 0, 1, 0, []) (List.mem_of_getElem? (i := 1) rfl)) (zd_law4 (380, .iload_n 3, 1, 0, []) (List.mem_of_getElem? (i := 2) rfl)) (zd_law4 (381, .iconst 5, 1, 0, []) (List.mem_of_getElem? (i := 3) rfl)) (zd_law4 (382, .iadd, 1, 0, []) (List.mem_of_getElem? (i := 4) rfl)) (zd_law4 (383, .iaload, 1, 0, []) (List.mem_of_getElem? (i := 5) rfl)) ?_
  refine zl_callp (pc := 384) (how := 0) (idx := 31) (mi := 27) (mcm := 16) (msm := 940) (pl := [652, 115, 653, 654]) hC (zX_wks hW) (by decide +kernel) rfl (by decide +kernel) (zd_law4 (384, .invokevirtual 31, 3, 0, []) (List.mem_of_getElem? (i := 6) rfl)) (zd_law4 (387, .pop, 1, 0, []) (List.mem_of_getElem? (i := 7) rfl)) hI [(xa : Int), zl_y xs j 1, zl_y xs j 2, zl_y xs j 3, zl_y xs j 4, zl_y xs j 5] rfl ⟨zp_o2 h12, zl_yo, zl_yo, zl_yo, zl_yo, zl_yo, trivial⟩ trivial hl.1 hf (fun al1 hal1 rn1 P1 F1 H1 locs1 hx1 hI1 hfr1 hok1 hcs1 hB1 => ?_)
  obtain ⟨tn, im, tp, tb, rw_, ri, kp, mt, hS, hc, hd, ht, hi⟩ := hR
  have hS1 := zl_Sfr hS h12 h13 hx1 hfr1 (by decide +kernel)
  have hd1 := zl_dfr h12 h13 hd hfr1 (by decide +kernel)
  have ht1 := zl_tfr hS h13 ht hfr1 (by decide +kernel)
  have hi1 := zl_ifr hS hi hx1 hfr1 (by decide +kernel)
  have x11 : zp_n F1 tn 1 = zp_n F tn 1 := zp_nf hfr1 hS.1.2 (by decide +kernel)
  have x19 : zp_n F1 tn 9 = zp_n F tn 9 := zp_nf hfr1 hS.1.2 (by decide +kernel)
  have y10 : zp_n F1 rw_ (2000 + 0) = zp_n F rw_ (2000 + 0) := zp_ne hfr1 hS.2.2.2.2.1.2 (by decide +kernel)
  have y11 : zp_n F1 rw_ (2000 + 1) = zp_n F rw_ (2000 + 1) := zp_ne hfr1 hS.2.2.2.2.1.2 (by decide +kernel)
  have y12 : zp_n F1 rw_ (2000 + 2) = zp_n F rw_ (2000 + 2) := zp_ne hfr1 hS.2.2.2.2.1.2 (by decide +kernel)
  have b1 : (¬ (1 ≤ zl_y xs j 2 ∧ zl_y xs j 2 ≤ 600 ∧ 0 ≤ zl_y xs j 3 ∧ zl_y xs j 3 ≤ 23 ∧ 1 ≤ zl_y xs j 4 ∧ zl_y xs j 4 ≤ 99) → rn1 = -1 ∧ zp_n F1 (zp_n F xa 0).toNat 3 = zp_n F (zp_n F xa 0).toNat 3) ∧ ((1 ≤ zl_y xs j 2 ∧ zl_y xs j 2 ≤ 600 ∧ 0 ≤ zl_y xs j 3 ∧ zl_y xs j 3 ≤ 23 ∧ 1 ≤ zl_y xs j 4 ∧ zl_y xs j 4 ≤ 99) ∧ ¬ (0 ≤ zl_y xs j 1 ∧ zl_y xs j 1 < zp_n F (zp_n F xa 0).toNat 1 ∧ (zl_y xs j 5 = -1 ∨ (0 ≤ zl_y xs j 5 ∧ zl_y xs j 5 < zp_n F (zp_n F xa 0).toNat 3))) → rn1 = -2 ∧ zp_n F1 (zp_n F xa 0).toNat 3 = zp_n F (zp_n F xa 0).toNat 3) ∧ ((1 ≤ zl_y xs j 2 ∧ zl_y xs j 2 ≤ 600 ∧ 0 ≤ zl_y xs j 3 ∧ zl_y xs j 3 ≤ 23 ∧ 1 ≤ zl_y xs j 4 ∧ zl_y xs j 4 ≤ 99) ∧ (0 ≤ zl_y xs j 1 ∧ zl_y xs j 1 < zp_n F (zp_n F xa 0).toNat 1 ∧ (zl_y xs j 5 = -1 ∨ (0 ≤ zl_y xs j 5 ∧ zl_y xs j 5 < zp_n F (zp_n F xa 0).toNat 3))) ∧ 10 ≤ zp_n F (zp_n F xa 0).toNat 3 → rn1 = -5 ∧ zp_n F1 (zp_n F xa 0).toNat 3 = zp_n F (zp_n F xa 0).toNat 3) ∧ ((1 ≤ zl_y xs j 2 ∧ zl_y xs j 2 ≤ 600 ∧ 0 ≤ zl_y xs j 3 ∧ zl_y xs j 3 ≤ 23 ∧ 1 ≤ zl_y xs j 4 ∧ zl_y xs j 4 ≤ 99) ∧ (0 ≤ zl_y xs j 1 ∧ zl_y xs j 1 < zp_n F (zp_n F xa 0).toNat 1 ∧ (zl_y xs j 5 = -1 ∨ (0 ≤ zl_y xs j 5 ∧ zl_y xs j 5 < zp_n F (zp_n F xa 0).toNat 3))) ∧ zp_n F (zp_n F xa 0).toNat 3 < 10 → rn1 = zp_n F (zp_n F xa 0).toNat 3 ∧ zp_n F1 (zp_n F xa 0).toNat 3 = zp_n F (zp_n F xa 0).toNat 3 + 1) := hB1
  rw [hS.1.1, Int.toNat_natCast] at b1
  have h12 := hx1 _ _ h12
  have h13 := hx1 _ _ h13
  refine zl_this (pc := 388) (k := 2) (i := 2) (a := ma) hC (zd_law4 (388, .aload_n 2, 1, 0, []) (List.mem_of_getElem? (i := 8) rfl)) rfl hl2 ?_
  refine zl_arg (pc := 389) (j := j) (k := 1) (n := 1) hC hI1 (by omega) (by decide) hl0 hl3 (zd_law4 (389, .aload_n 0, 1, 0, []) (List.mem_of_getElem? (i := 9) rfl)) (zd_law4 (390, .iload_n 3, 1, 0, []) (List.mem_of_getElem? (i := 10) rfl)) (zd_law4 (391, .iconst 1, 1, 0, []) (List.mem_of_getElem? (i := 11) rfl)) (zd_law4 (392, .iadd, 1, 0, []) (List.mem_of_getElem? (i := 12) rfl)) (zd_law4 (393, .iaload, 1, 0, []) (List.mem_of_getElem? (i := 13) rfl)) ?_
  refine zl_arg (pc := 394) (j := j) (k := 2) (n := 2) hC hI1 (by omega) (by decide) hl0 hl3 (zd_law4 (394, .aload_n 0, 1, 0, []) (List.mem_of_getElem? (i := 14) rfl)) (zd_law4 (395, .iload_n 3, 1, 0, []) (List.mem_of_getElem? (i := 15) rfl)) (zd_law4 (396, .iconst 2, 1, 0, []) (List.mem_of_getElem? (i := 16) rfl)) (zd_law4 (397, .iadd, 1, 0, []) (List.mem_of_getElem? (i := 17) rfl)) (zd_law4 (398, .iaload, 1, 0, []) (List.mem_of_getElem? (i := 18) rfl)) ?_
  refine zl_arg (pc := 399) (j := j) (k := 3) (n := 3) hC hI1 (by omega) (by decide) hl0 hl3 (zd_law4 (399, .aload_n 0, 1, 0, []) (List.mem_of_getElem? (i := 19) rfl)) (zd_law4 (400, .iload_n 3, 1, 0, []) (List.mem_of_getElem? (i := 20) rfl)) (zd_law4 (401, .iconst 3, 1, 0, []) (List.mem_of_getElem? (i := 21) rfl)) (zd_law4 (402, .iadd, 1, 0, []) (List.mem_of_getElem? (i := 22) rfl)) (zd_law4 (403, .iaload, 1, 0, []) (List.mem_of_getElem? (i := 23) rfl)) ?_
  refine zl_arg (pc := 404) (j := j) (k := 4) (n := 4) hC hI1 (by omega) (by decide) hl0 hl3 (zd_law4 (404, .aload_n 0, 1, 0, []) (List.mem_of_getElem? (i := 24) rfl)) (zd_law4 (405, .iload_n 3, 1, 0, []) (List.mem_of_getElem? (i := 25) rfl)) (zd_law4 (406, .iconst 4, 1, 0, []) (List.mem_of_getElem? (i := 26) rfl)) (zd_law4 (407, .iadd, 1, 0, []) (List.mem_of_getElem? (i := 27) rfl)) (zd_law4 (408, .iaload, 1, 0, []) (List.mem_of_getElem? (i := 28) rfl)) ?_
  refine zl_arg (pc := 409) (j := j) (k := 5) (n := 5) hC hI1 (by omega) (by decide) hl0 hl3 (zd_law4 (409, .aload_n 0, 1, 0, []) (List.mem_of_getElem? (i := 29) rfl)) (zd_law4 (410, .iload_n 3, 1, 0, []) (List.mem_of_getElem? (i := 30) rfl)) (zd_law4 (411, .iconst 5, 1, 0, []) (List.mem_of_getElem? (i := 31) rfl)) (zd_law4 (412, .iadd, 1, 0, []) (List.mem_of_getElem? (i := 32) rfl)) (zd_law4 (413, .iaload, 1, 0, []) (List.mem_of_getElem? (i := 33) rfl)) ?_
  refine zl_callp (pc := 414) (how := 0) (idx := 35) (mi := 198) (mcm := 0) (msm := 0) (pl := [1621, 128, 1622, 1623]) hC (zX_mwk hW) (by decide +kernel) rfl (by decide +kernel) (zd_law4 (414, .invokevirtual 35, 3, 0, []) (List.mem_of_getElem? (i := 34) rfl)) (zd_law4 (417, .pop, 1, 0, []) (List.mem_of_getElem? (i := 35) rfl)) hI1 [(ma : Int), zl_y xs j 1, zl_y xs j 2, zl_y xs j 3, zl_y xs j 4, zl_y xs j 5] rfl ⟨zp_o2 h13, zl_yo, zl_yo, zl_yo, zl_yo, zl_yo, trivial⟩ trivial hl.1 hf (fun al2 hal2 rn2 P2 F2 H2 locs2 hx2 hI2 hfr2 hok2 hcs2 hB2 => ?_)
  have hS2 := zl_Sfr hS1 h12 h13 hx2 hfr2 (by decide +kernel)
  have hd2 := zl_dfr h12 h13 hd1 hfr2 (by decide +kernel)
  have ht2 := zl_tfr hS1 h13 ht1 hfr2 (by decide +kernel)
  have hi2 := zl_ifr hS1 hi1 hx2 hfr2 (by decide +kernel)
  have x21 : zp_n F2 tn 1 = zp_n F1 tn 1 := zp_nf hfr2 hS1.1.2 (by decide +kernel)
  have x23 : zp_n F2 tn 3 = zp_n F1 tn 3 := zp_nf hfr2 hS1.1.2 (by decide +kernel)
  have x29 : zp_n F2 tn 9 = zp_n F1 tn 9 := zp_nf hfr2 hS1.1.2 (by decide +kernel)
  have y20 : zp_n F2 rw_ (2000 + 0) = zp_n F1 rw_ (2000 + 0) := zp_ne hfr2 hS1.2.2.2.2.1.2 (by decide +kernel)
  have y22 : zp_n F2 rw_ (2000 + 2) = zp_n F1 rw_ (2000 + 2) := zp_ne hfr2 hS1.2.2.2.2.1.2 (by decide +kernel)
  have b2 : (¬ (1 ≤ zl_y xs j 2 ∧ zl_y xs j 2 ≤ 600 ∧ 0 ≤ zl_y xs j 3 ∧ zl_y xs j 3 ≤ 23 ∧ 1 ≤ zl_y xs j 4 ∧ zl_y xs j 4 ≤ 99) → rn2 = -1 ∧ zp_n F2 (zp_n F1 ma 3).toNat (2000 + 1) = zp_n F1 (zp_n F1 ma 3).toNat (2000 + 1)) ∧ ((1 ≤ zl_y xs j 2 ∧ zl_y xs j 2 ≤ 600 ∧ 0 ≤ zl_y xs j 3 ∧ zl_y xs j 3 ≤ 23 ∧ 1 ≤ zl_y xs j 4 ∧ zl_y xs j 4 ≤ 99) ∧ ¬ (0 ≤ zl_y xs j 1 ∧ zl_y xs j 1 < zp_n F1 (zp_n F1 ma 3).toNat (2000 + 0) ∧ (zl_y xs j 5 = -1 ∨ (0 ≤ zl_y xs j 5 ∧ zl_y xs j 5 < zp_n F1 (zp_n F1 ma 3).toNat (2000 + 1)))) → rn2 = -2 ∧ zp_n F2 (zp_n F1 ma 3).toNat (2000 + 1) = zp_n F1 (zp_n F1 ma 3).toNat (2000 + 1)) ∧ ((1 ≤ zl_y xs j 2 ∧ zl_y xs j 2 ≤ 600 ∧ 0 ≤ zl_y xs j 3 ∧ zl_y xs j 3 ≤ 23 ∧ 1 ≤ zl_y xs j 4 ∧ zl_y xs j 4 ≤ 99) ∧ (0 ≤ zl_y xs j 1 ∧ zl_y xs j 1 < zp_n F1 (zp_n F1 ma 3).toNat (2000 + 0) ∧ (zl_y xs j 5 = -1 ∨ (0 ≤ zl_y xs j 5 ∧ zl_y xs j 5 < zp_n F1 (zp_n F1 ma 3).toNat (2000 + 1)))) ∧ 10 ≤ zp_n F1 (zp_n F1 ma 3).toNat (2000 + 1) → rn2 = -5 ∧ zp_n F2 (zp_n F1 ma 3).toNat (2000 + 1) = zp_n F1 (zp_n F1 ma 3).toNat (2000 + 1)) ∧ ((1 ≤ zl_y xs j 2 ∧ zl_y xs j 2 ≤ 600 ∧ 0 ≤ zl_y xs j 3 ∧ zl_y xs j 3 ≤ 23 ∧ 1 ≤ zl_y xs j 4 ∧ zl_y xs j 4 ≤ 99) ∧ (0 ≤ zl_y xs j 1 ∧ zl_y xs j 1 < zp_n F1 (zp_n F1 ma 3).toNat (2000 + 0) ∧ (zl_y xs j 5 = -1 ∨ (0 ≤ zl_y xs j 5 ∧ zl_y xs j 5 < zp_n F1 (zp_n F1 ma 3).toNat (2000 + 1)))) ∧ zp_n F1 (zp_n F1 ma 3).toNat (2000 + 1) < 10 → rn2 = zp_n F1 (zp_n F1 ma 3).toNat (2000 + 1) ∧ zp_n F2 (zp_n F1 ma 3).toNat (2000 + 1) = zp_n F1 (zp_n F1 ma 3).toNat (2000 + 1) + 1) := hB2
  rw [hS1.2.2.2.2.1.1, Int.toNat_natCast] at b2
  obtain ⟨c0, c1, c2⟩ := hc
  have e3 : rn1 = rn2 := by omega
  have hc2 : zl_c tn rw_ (zp_n F2) := ⟨by omega, by omega, by omega⟩
  have hR : zl_R xa ma P2 (zp_n F2) := ⟨tn, im, tp, tb, rw_, ri, kp, mt, hS2, hc2, hd2, ht2, hi2⟩
  have h12 := hx2 _ _ h12
  have h13 := hx2 _ _ h13
  refine lv_goto (pc := 418) (tgt := 1372) hC.1 hC.2.1 (zd_law4 (418, .goto 954, 3, 0, []) (List.mem_of_getElem? (i := 36) rfl)) (by decide) ?_
  exact kk P2 F2 H2 locs2 hI2 h12 h13 hR
/-- case 5 -/
theorem zl_c5 {p : Program} {l : Launch} {e : Env} {s : State} {m : MethodId} {args : Array Value} {below : List Frame} {meth : Method} {c : Code} {Q : State → Prop} {w : zk_W} {b L : Nat} {xs : Nat → Int32} (hC : zl_C p s m args c w b L xs) {xa ma j : Nat} (hj : 6 * j + 5 < L) {P : Nat → Option Nat} {F : Nat → va_E} {H : Heap} {locs : List Loc} {cu su : Nat} {ls : Array Slot} (hl : lv_has ls 4 [(0, .ref b), (1, .ref xa), (2, .ref ma), (3, .int (nI (6 * j)))]) (hI : zl_I w s P F H locs) (h12 : P xa = some 12) (h13 : P ma = some 13) (hR : zl_R xa ma P (zp_n F)) (hf : cu + 16 ≤ 600000 ∧ su + 940 ≤ 7302250) (kk : ∀ (P' : Nat → Option Nat) (F' : Nat → va_E) (H' : Heap) (locs' : List Loc), zl_I w s P' F' H' locs' → P' xa = some 12 → P' ma = some 13 → zl_R xa ma P' (zp_n F') → W p l e room_1 s m args below meth c H' locs' (cu + 16) (su + 940) Q (F0 m 1372 ls [])) : W p l e room_1 s m args below meth c H locs cu su Q (F0 m 421 ls []) := by
  have hW : zh_W w := hC.2.2.2.2.2.2.2.2.1
  have hl0 := lv_at hl 0 rfl
  have hl1 := lv_at hl 1 rfl
  have hl2 := lv_at hl 2 rfl
  have hl3 := lv_at hl 3 rfl
  refine zl_this (pc := 421) (k := 1) (i := 1) (a := xa) hC (zd_law4 (421, .aload_n 1, 1, 0, []) (List.mem_of_getElem? (i := 37) rfl)) rfl hl1 ?_
  refine zl_arg (pc := 422) (j := j) (k := 1) (n := 1) hC hI (by omega) (by decide) hl0 hl3 (zd_law4 (422, .aload_n 0, 1, 0, []) (List.mem_of_getElem? (i := 38) rfl)) (zd_law4 (423, .iload_n 3, 1, 0, []) (List.mem_of_getElem? (i := 39) rfl)) (zd_law5 (424, .iconst 1, 1, 0, []) (List.mem_of_getElem? (i := 0) rfl)) (zd_law5 (425, .iadd, 1, 0, []) (List.mem_of_getElem? (i := 1) rfl)) (zd_law5 (426, .iaload, 1, 0, []) (List.mem_of_getElem? (i := 2) rfl)) ?_
  refine zl_arg (pc := 427) (j := j) (k := 2) (n := 2) hC hI (by omega) (by decide) hl0 hl3 (zd_law5 (427, .aload_n 0, 1, 0, []) (List.mem_of_getElem? (i := 3) rfl)) (zd_law5 (428, .iload_n 3, 1, 0, []) (List.mem_of_getElem? (i := 4) rfl)) (zd_law5 (429, .iconst 2, 1, 0, []) (List.mem_of_getElem? (i := 5) rfl)) (zd_law5 (430, .iadd, 1, 0, []) (List.mem_of_getElem? (i := 6) rfl)) (zd_law5 (431, .iaload, 1, 0, []) (List.mem_of_getElem? (i := 7) rfl)) ?_
  refine zl_callp (pc := 432) (how := 0) (idx := 36) (mi := 29) (mcm := 16) (msm := 940) (pl := [661, 115, 662, 663]) hC (zp_plain (zq_27 hW)) (by decide +kernel) rfl (by decide +kernel) (zd_law5 (432, .invokevirtual 36, 3, 0, []) (List.mem_of_getElem? (i := 8) rfl)) (zd_law5 (435, .pop, 1, 0, []) (List.mem_of_getElem? (i := 9) rfl)) hI [(xa : Int), zl_y xs j 1, zl_y xs j 2] rfl ⟨zp_o2 h12, zl_yo, zl_yo, trivial⟩ trivial hl.1 hf (fun al1 hal1 rn1 P1 F1 H1 locs1 hx1 hI1 hfr1 hok1 hcs1 hB1 => ?_)
  have hR := zl_Rfr hR h12 h13 hx1 hfr1 (by decide +kernel)
  have h12 := hx1 _ _ h12
  have h13 := hx1 _ _ h13
  refine zl_this (pc := 436) (k := 2) (i := 2) (a := ma) hC (zd_law5 (436, .aload_n 2, 1, 0, []) (List.mem_of_getElem? (i := 10) rfl)) rfl hl2 ?_
  refine zl_arg (pc := 437) (j := j) (k := 1) (n := 1) hC hI1 (by omega) (by decide) hl0 hl3 (zd_law5 (437, .aload_n 0, 1, 0, []) (List.mem_of_getElem? (i := 11) rfl)) (zd_law5 (438, .iload_n 3, 1, 0, []) (List.mem_of_getElem? (i := 12) rfl)) (zd_law5 (439, .iconst 1, 1, 0, []) (List.mem_of_getElem? (i := 13) rfl)) (zd_law5 (440, .iadd, 1, 0, []) (List.mem_of_getElem? (i := 14) rfl)) (zd_law5 (441, .iaload, 1, 0, []) (List.mem_of_getElem? (i := 15) rfl)) ?_
  refine zl_arg (pc := 442) (j := j) (k := 2) (n := 2) hC hI1 (by omega) (by decide) hl0 hl3 (zd_law5 (442, .aload_n 0, 1, 0, []) (List.mem_of_getElem? (i := 16) rfl)) (zd_law5 (443, .iload_n 3, 1, 0, []) (List.mem_of_getElem? (i := 17) rfl)) (zd_law5 (444, .iconst 2, 1, 0, []) (List.mem_of_getElem? (i := 18) rfl)) (zd_law5 (445, .iadd, 1, 0, []) (List.mem_of_getElem? (i := 19) rfl)) (zd_law5 (446, .iaload, 1, 0, []) (List.mem_of_getElem? (i := 20) rfl)) ?_
  refine zl_callp (pc := 447) (how := 0) (idx := 39) (mi := 201) (mcm := 0) (msm := 0) (pl := [1635, 128, 1636, 1637]) hC (zp_plain (zq_1035 hW)) (by decide +kernel) rfl (by decide +kernel) (zd_law5 (447, .invokevirtual 39, 3, 0, []) (List.mem_of_getElem? (i := 21) rfl)) (zd_law5 (450, .pop, 1, 0, []) (List.mem_of_getElem? (i := 22) rfl)) hI1 [(ma : Int), zl_y xs j 1, zl_y xs j 2] rfl ⟨zp_o2 h13, zl_yo, zl_yo, trivial⟩ trivial hl.1 hf (fun al2 hal2 rn2 P2 F2 H2 locs2 hx2 hI2 hfr2 hok2 hcs2 hB2 => ?_)
  have hR := zl_Rfr hR h12 h13 hx2 hfr2 (by decide +kernel)
  have h12 := hx2 _ _ h12
  have h13 := hx2 _ _ h13
  refine lv_goto (pc := 451) (tgt := 1372) hC.1 hC.2.1 (zd_law5 (451, .goto 921, 3, 0, []) (List.mem_of_getElem? (i := 23) rfl)) (by decide) ?_
  exact kk P2 F2 H2 locs2 hI2 h12 h13 hR
/-- case 6 -/
theorem zl_c6 {p : Program} {l : Launch} {e : Env} {s : State} {m : MethodId} {args : Array Value} {below : List Frame} {meth : Method} {c : Code} {Q : State → Prop} {w : zk_W} {b L : Nat} {xs : Nat → Int32} (hC : zl_C p s m args c w b L xs) {xa ma j : Nat} (hj : 6 * j + 5 < L) {P : Nat → Option Nat} {F : Nat → va_E} {H : Heap} {locs : List Loc} {cu su : Nat} {ls : Array Slot} (hl : lv_has ls 4 [(0, .ref b), (1, .ref xa), (2, .ref ma), (3, .int (nI (6 * j)))]) (hI : zl_I w s P F H locs) (h12 : P xa = some 12) (h13 : P ma = some 13) (hR : zl_R xa ma P (zp_n F)) (hf : cu + 16 ≤ 600000 ∧ su + 940 ≤ 7302250) (kk : ∀ (P' : Nat → Option Nat) (F' : Nat → va_E) (H' : Heap) (locs' : List Loc), zl_I w s P' F' H' locs' → P' xa = some 12 → P' ma = some 13 → zl_R xa ma P' (zp_n F') → W p l e room_1 s m args below meth c H' locs' (cu + 16) (su + 940) Q (F0 m 1372 ls [])) : W p l e room_1 s m args below meth c H locs cu su Q (F0 m 454 ls []) := by
  have hW : zh_W w := hC.2.2.2.2.2.2.2.2.1
  have hl0 := lv_at hl 0 rfl
  have hl1 := lv_at hl 1 rfl
  have hl2 := lv_at hl 2 rfl
  have hl3 := lv_at hl 3 rfl
  refine zl_this (pc := 454) (k := 1) (i := 1) (a := xa) hC (zd_law5 (454, .aload_n 1, 1, 0, []) (List.mem_of_getElem? (i := 24) rfl)) rfl hl1 ?_
  refine zl_arg (pc := 455) (j := j) (k := 1) (n := 1) hC hI (by omega) (by decide) hl0 hl3 (zd_law5 (455, .aload_n 0, 1, 0, []) (List.mem_of_getElem? (i := 25) rfl)) (zd_law5 (456, .iload_n 3, 1, 0, []) (List.mem_of_getElem? (i := 26) rfl)) (zd_law5 (457, .iconst 1, 1, 0, []) (List.mem_of_getElem? (i := 27) rfl)) (zd_law5 (458, .iadd, 1, 0, []) (List.mem_of_getElem? (i := 28) rfl)) (zd_law5 (459, .iaload, 1, 0, []) (List.mem_of_getElem? (i := 29) rfl)) ?_
  refine zl_arg (pc := 460) (j := j) (k := 2) (n := 2) hC hI (by omega) (by decide) hl0 hl3 (zd_law5 (460, .aload_n 0, 1, 0, []) (List.mem_of_getElem? (i := 30) rfl)) (zd_law5 (461, .iload_n 3, 1, 0, []) (List.mem_of_getElem? (i := 31) rfl)) (zd_law5 (462, .iconst 2, 1, 0, []) (List.mem_of_getElem? (i := 32) rfl)) (zd_law5 (463, .iadd, 1, 0, []) (List.mem_of_getElem? (i := 33) rfl)) (zd_law5 (464, .iaload, 1, 0, []) (List.mem_of_getElem? (i := 34) rfl)) ?_
  refine zl_callp (pc := 465) (how := 0) (idx := 40) (mi := 30) (mcm := 16) (msm := 940) (pl := [665, 115, 666, 667]) hC (zp_plain (zq_28 hW)) (by decide +kernel) rfl (by decide +kernel) (zd_law5 (465, .invokevirtual 40, 3, 0, []) (List.mem_of_getElem? (i := 35) rfl)) (zd_law5 (468, .pop, 1, 0, []) (List.mem_of_getElem? (i := 36) rfl)) hI [(xa : Int), zl_y xs j 1, zl_y xs j 2] rfl ⟨zp_o2 h12, zl_yo, zl_yo, trivial⟩ trivial hl.1 hf (fun al1 hal1 rn1 P1 F1 H1 locs1 hx1 hI1 hfr1 hok1 hcs1 hB1 => ?_)
  have hR := zl_Rfr hR h12 h13 hx1 hfr1 (by decide +kernel)
  have h12 := hx1 _ _ h12
  have h13 := hx1 _ _ h13
  refine zl_this (pc := 469) (k := 2) (i := 2) (a := ma) hC (zd_law5 (469, .aload_n 2, 1, 0, []) (List.mem_of_getElem? (i := 37) rfl)) rfl hl2 ?_
  refine zl_arg (pc := 470) (j := j) (k := 1) (n := 1) hC hI1 (by omega) (by decide) hl0 hl3 (zd_law5 (470, .aload_n 0, 1, 0, []) (List.mem_of_getElem? (i := 38) rfl)) (zd_law5 (471, .iload_n 3, 1, 0, []) (List.mem_of_getElem? (i := 39) rfl)) (zd_law6 (472, .iconst 1, 1, 0, []) (List.mem_of_getElem? (i := 0) rfl)) (zd_law6 (473, .iadd, 1, 0, []) (List.mem_of_getElem? (i := 1) rfl)) (zd_law6 (474, .iaload, 1, 0, []) (List.mem_of_getElem? (i := 2) rfl)) ?_
  refine zl_arg (pc := 475) (j := j) (k := 2) (n := 2) hC hI1 (by omega) (by decide) hl0 hl3 (zd_law6 (475, .aload_n 0, 1, 0, []) (List.mem_of_getElem? (i := 3) rfl)) (zd_law6 (476, .iload_n 3, 1, 0, []) (List.mem_of_getElem? (i := 4) rfl)) (zd_law6 (477, .iconst 2, 1, 0, []) (List.mem_of_getElem? (i := 5) rfl)) (zd_law6 (478, .iadd, 1, 0, []) (List.mem_of_getElem? (i := 6) rfl)) (zd_law6 (479, .iaload, 1, 0, []) (List.mem_of_getElem? (i := 7) rfl)) ?_
  refine zl_callp (pc := 480) (how := 0) (idx := 43) (mi := 202) (mcm := 0) (msm := 0) (pl := [1640, 128, 1641, 1642]) hC (zp_plain (zq_1041 hW)) (by decide +kernel) rfl (by decide +kernel) (zd_law6 (480, .invokevirtual 43, 3, 0, []) (List.mem_of_getElem? (i := 8) rfl)) (zd_law6 (483, .pop, 1, 0, []) (List.mem_of_getElem? (i := 9) rfl)) hI1 [(ma : Int), zl_y xs j 1, zl_y xs j 2] rfl ⟨zp_o2 h13, zl_yo, zl_yo, trivial⟩ trivial hl.1 hf (fun al2 hal2 rn2 P2 F2 H2 locs2 hx2 hI2 hfr2 hok2 hcs2 hB2 => ?_)
  have hR := zl_Rfr hR h12 h13 hx2 hfr2 (by decide +kernel)
  have h12 := hx2 _ _ h12
  have h13 := hx2 _ _ h13
  refine lv_goto (pc := 484) (tgt := 1372) hC.1 hC.2.1 (zd_law6 (484, .goto 888, 3, 0, []) (List.mem_of_getElem? (i := 10) rfl)) (by decide) ?_
  exact kk P2 F2 H2 locs2 hI2 h12 h13 hR
/-- case 7 -/
theorem zl_c7 {p : Program} {l : Launch} {e : Env} {s : State} {m : MethodId} {args : Array Value} {below : List Frame} {meth : Method} {c : Code} {Q : State → Prop} {w : zk_W} {b L : Nat} {xs : Nat → Int32} (hC : zl_C p s m args c w b L xs) {xa ma j : Nat} (hj : 6 * j + 5 < L) {P : Nat → Option Nat} {F : Nat → va_E} {H : Heap} {locs : List Loc} {cu su : Nat} {ls : Array Slot} (hl : lv_has ls 4 [(0, .ref b), (1, .ref xa), (2, .ref ma), (3, .int (nI (6 * j)))]) (hI : zl_I w s P F H locs) (h12 : P xa = some 12) (h13 : P ma = some 13) (hR : zl_R xa ma P (zp_n F)) (hf : cu + 16 ≤ 600000 ∧ su + 940 ≤ 7302250) (kk : ∀ (P' : Nat → Option Nat) (F' : Nat → va_E) (H' : Heap) (locs' : List Loc), zl_I w s P' F' H' locs' → P' xa = some 12 → P' ma = some 13 → zl_R xa ma P' (zp_n F') → W p l e room_1 s m args below meth c H' locs' (cu + 16) (su + 940) Q (F0 m 1372 ls [])) : W p l e room_1 s m args below meth c H locs cu su Q (F0 m 487 ls []) := by
  have hW : zh_W w := hC.2.2.2.2.2.2.2.2.1
  have hl0 := lv_at hl 0 rfl
  have hl1 := lv_at hl 1 rfl
  have hl2 := lv_at hl 2 rfl
  have hl3 := lv_at hl 3 rfl
  refine zl_this (pc := 487) (k := 1) (i := 1) (a := xa) hC (zd_law6 (487, .aload_n 1, 1, 0, []) (List.mem_of_getElem? (i := 11) rfl)) rfl hl1 ?_
  refine zl_arg (pc := 488) (j := j) (k := 1) (n := 1) hC hI (by omega) (by decide) hl0 hl3 (zd_law6 (488, .aload_n 0, 1, 0, []) (List.mem_of_getElem? (i := 12) rfl)) (zd_law6 (489, .iload_n 3, 1, 0, []) (List.mem_of_getElem? (i := 13) rfl)) (zd_law6 (490, .iconst 1, 1, 0, []) (List.mem_of_getElem? (i := 14) rfl)) (zd_law6 (491, .iadd, 1, 0, []) (List.mem_of_getElem? (i := 15) rfl)) (zd_law6 (492, .iaload, 1, 0, []) (List.mem_of_getElem? (i := 16) rfl)) ?_
  refine zl_arg (pc := 493) (j := j) (k := 2) (n := 2) hC hI (by omega) (by decide) hl0 hl3 (zd_law6 (493, .aload_n 0, 1, 0, []) (List.mem_of_getElem? (i := 17) rfl)) (zd_law6 (494, .iload_n 3, 1, 0, []) (List.mem_of_getElem? (i := 18) rfl)) (zd_law6 (495, .iconst 2, 1, 0, []) (List.mem_of_getElem? (i := 19) rfl)) (zd_law6 (496, .iadd, 1, 0, []) (List.mem_of_getElem? (i := 20) rfl)) (zd_law6 (497, .iaload, 1, 0, []) (List.mem_of_getElem? (i := 21) rfl)) ?_
  refine zl_arg (pc := 498) (j := j) (k := 3) (n := 3) hC hI (by omega) (by decide) hl0 hl3 (zd_law6 (498, .aload_n 0, 1, 0, []) (List.mem_of_getElem? (i := 22) rfl)) (zd_law6 (499, .iload_n 3, 1, 0, []) (List.mem_of_getElem? (i := 23) rfl)) (zd_law6 (500, .iconst 3, 1, 0, []) (List.mem_of_getElem? (i := 24) rfl)) (zd_law6 (501, .iadd, 1, 0, []) (List.mem_of_getElem? (i := 25) rfl)) (zd_law6 (502, .iaload, 1, 0, []) (List.mem_of_getElem? (i := 26) rfl)) ?_
  refine zl_arg (pc := 503) (j := j) (k := 4) (n := 4) hC hI (by omega) (by decide) hl0 hl3 (zd_law6 (503, .aload_n 0, 1, 0, []) (List.mem_of_getElem? (i := 27) rfl)) (zd_law6 (504, .iload_n 3, 1, 0, []) (List.mem_of_getElem? (i := 28) rfl)) (zd_law6 (505, .iconst 4, 1, 0, []) (List.mem_of_getElem? (i := 29) rfl)) (zd_law6 (506, .iadd, 1, 0, []) (List.mem_of_getElem? (i := 30) rfl)) (zd_law6 (507, .iaload, 1, 0, []) (List.mem_of_getElem? (i := 31) rfl)) ?_
  refine zl_arg (pc := 508) (j := j) (k := 5) (n := 5) hC hI (by omega) (by decide) hl0 hl3 (zd_law6 (508, .aload_n 0, 1, 0, []) (List.mem_of_getElem? (i := 32) rfl)) (zd_law6 (509, .iload_n 3, 1, 0, []) (List.mem_of_getElem? (i := 33) rfl)) (zd_law6 (510, .iconst 5, 1, 0, []) (List.mem_of_getElem? (i := 34) rfl)) (zd_law6 (511, .iadd, 1, 0, []) (List.mem_of_getElem? (i := 35) rfl)) (zd_law6 (512, .iaload, 1, 0, []) (List.mem_of_getElem? (i := 36) rfl)) ?_
  refine zl_callp (pc := 513) (how := 0) (idx := 44) (mi := 31) (mcm := 16) (msm := 940) (pl := [669, 115, 670, 671]) hC (zX_fdb hW) (by decide +kernel) rfl (by decide +kernel) (zd_law6 (513, .invokevirtual 44, 3, 0, []) (List.mem_of_getElem? (i := 37) rfl)) (zd_law6 (516, .pop, 1, 0, []) (List.mem_of_getElem? (i := 38) rfl)) hI [(xa : Int), zl_y xs j 1, zl_y xs j 2, zl_y xs j 3, zl_y xs j 4, zl_y xs j 5] rfl ⟨zp_o2 h12, zl_yo, zl_yo, zl_yo, zl_yo, zl_yo, trivial⟩ trivial hl.1 hf (fun al1 hal1 rn1 P1 F1 H1 locs1 hx1 hI1 hfr1 hok1 hcs1 hB1 => ?_)
  obtain ⟨tn, im, tp, tb, rw_, ri, kp, mt, hS, hc, hd, ht, hi⟩ := hR
  have hS1 := zl_Sfr hS h12 h13 hx1 hfr1 (by decide +kernel)
  have hc1 := zl_cfr hS hc hfr1 (by decide +kernel)
  have hd1 := zl_dfr h12 h13 hd hfr1 (by decide +kernel)
  have hi1 := zl_ifr hS hi hx1 hfr1 (by decide +kernel)
  have b1 : (zp_n F (zp_n F xa 8).toNat 1 ≤ 380 → rn1 = zp_n F (zp_n F xa 8).toNat 1 + 20 ∧ zp_n F1 (zp_n F xa 8).toNat 1 = zp_n F (zp_n F xa 8).toNat 1 + 20 ∧ ∀ j : Nat, zp_n F1 (zp_n F (zp_n F xa 8).toNat 0).toNat (2000 + j) = zF_5 (fun j => zp_n F (zp_n F (zp_n F xa 8).toNat 0).toNat (2000 + j)) (zp_n F (zp_n F xa 8).toNat 1) (zl_y xs j 1) (zl_y xs j 2) (zl_y xs j 3) (zl_y xs j 4) (zl_y xs j 5) j) ∧ (¬ (zp_n F (zp_n F xa 8).toNat 1 ≤ 380) → rn1 = -1 ∧ zp_n F1 (zp_n F xa 8).toNat 1 = zp_n F (zp_n F xa 8).toNat 1 ∧ ∀ j : Nat, zp_n F1 (zp_n F (zp_n F xa 8).toNat 0).toNat (2000 + j) = (fun j => zp_n F (zp_n F (zp_n F xa 8).toNat 0).toNat (2000 + j)) j) := hB1
  rw [hS.2.2.1.1, Int.toNat_natCast, hS.2.2.2.1.1, Int.toNat_natCast] at b1
  have m13 : zp_n F1 ma 13 = zp_n F ma 13 := zp_nf hfr1 h13 (by decide +kernel)
  have mmt : ∀ j, zp_n F1 mt (2000 + j) = zp_n F mt (2000 + j) := fun j => zp_nc hfr1 hS.2.2.2.2.2.2.2.2 (by decide +kernel) _
  have h12 := hx1 _ _ h12
  have h13 := hx1 _ _ h13
  refine zl_this (pc := 517) (k := 2) (i := 2) (a := ma) hC (zd_law6 (517, .aload_n 2, 1, 0, []) (List.mem_of_getElem? (i := 39) rfl)) rfl hl2 ?_
  refine zl_arg (pc := 518) (j := j) (k := 1) (n := 1) hC hI1 (by omega) (by decide) hl0 hl3 (zd_law7 (518, .aload_n 0, 1, 0, []) (List.mem_of_getElem? (i := 0) rfl)) (zd_law7 (519, .iload_n 3, 1, 0, []) (List.mem_of_getElem? (i := 1) rfl)) (zd_law7 (520, .iconst 1, 1, 0, []) (List.mem_of_getElem? (i := 2) rfl)) (zd_law7 (521, .iadd, 1, 0, []) (List.mem_of_getElem? (i := 3) rfl)) (zd_law7 (522, .iaload, 1, 0, []) (List.mem_of_getElem? (i := 4) rfl)) ?_
  refine zl_arg (pc := 523) (j := j) (k := 2) (n := 2) hC hI1 (by omega) (by decide) hl0 hl3 (zd_law7 (523, .aload_n 0, 1, 0, []) (List.mem_of_getElem? (i := 5) rfl)) (zd_law7 (524, .iload_n 3, 1, 0, []) (List.mem_of_getElem? (i := 6) rfl)) (zd_law7 (525, .iconst 2, 1, 0, []) (List.mem_of_getElem? (i := 7) rfl)) (zd_law7 (526, .iadd, 1, 0, []) (List.mem_of_getElem? (i := 8) rfl)) (zd_law7 (527, .iaload, 1, 0, []) (List.mem_of_getElem? (i := 9) rfl)) ?_
  refine zl_arg (pc := 528) (j := j) (k := 3) (n := 3) hC hI1 (by omega) (by decide) hl0 hl3 (zd_law7 (528, .aload_n 0, 1, 0, []) (List.mem_of_getElem? (i := 10) rfl)) (zd_law7 (529, .iload_n 3, 1, 0, []) (List.mem_of_getElem? (i := 11) rfl)) (zd_law7 (530, .iconst 3, 1, 0, []) (List.mem_of_getElem? (i := 12) rfl)) (zd_law7 (531, .iadd, 1, 0, []) (List.mem_of_getElem? (i := 13) rfl)) (zd_law7 (532, .iaload, 1, 0, []) (List.mem_of_getElem? (i := 14) rfl)) ?_
  refine zl_arg (pc := 533) (j := j) (k := 4) (n := 4) hC hI1 (by omega) (by decide) hl0 hl3 (zd_law7 (533, .aload_n 0, 1, 0, []) (List.mem_of_getElem? (i := 15) rfl)) (zd_law7 (534, .iload_n 3, 1, 0, []) (List.mem_of_getElem? (i := 16) rfl)) (zd_law7 (535, .iconst 4, 1, 0, []) (List.mem_of_getElem? (i := 17) rfl)) (zd_law7 (536, .iadd, 1, 0, []) (List.mem_of_getElem? (i := 18) rfl)) (zd_law7 (537, .iaload, 1, 0, []) (List.mem_of_getElem? (i := 19) rfl)) ?_
  refine zl_arg (pc := 538) (j := j) (k := 5) (n := 5) hC hI1 (by omega) (by decide) hl0 hl3 (zd_law7 (538, .aload_n 0, 1, 0, []) (List.mem_of_getElem? (i := 20) rfl)) (zd_law7 (539, .iload_n 3, 1, 0, []) (List.mem_of_getElem? (i := 21) rfl)) (zd_law7 (540, .iconst 5, 1, 0, []) (List.mem_of_getElem? (i := 22) rfl)) (zd_law7 (541, .iadd, 1, 0, []) (List.mem_of_getElem? (i := 23) rfl)) (zd_law7 (542, .iaload, 1, 0, []) (List.mem_of_getElem? (i := 24) rfl)) ?_
  refine zl_callp (pc := 543) (how := 0) (idx := 47) (mi := 205) (mcm := 0) (msm := 0) (pl := [1653, 128, 1654, 1655]) hC (zX_mfd hW) (by decide +kernel) rfl (by decide +kernel) (zd_law7 (543, .invokevirtual 47, 3, 0, []) (List.mem_of_getElem? (i := 25) rfl)) (zd_law7 (546, .pop, 1, 0, []) (List.mem_of_getElem? (i := 26) rfl)) hI1 [(ma : Int), zl_y xs j 1, zl_y xs j 2, zl_y xs j 3, zl_y xs j 4, zl_y xs j 5] rfl ⟨zp_o2 h13, zl_yo, zl_yo, zl_yo, zl_yo, zl_yo, trivial⟩ trivial hl.1 hf (fun al2 hal2 rn2 P2 F2 H2 locs2 hx2 hI2 hfr2 hok2 hcs2 hB2 => ?_)
  have hS2 := zl_Sfr hS1 h12 h13 hx2 hfr2 (by decide +kernel)
  have hc2 := zl_cfr hS1 hc1 hfr2 (by decide +kernel)
  have hd2 := zl_dfr h12 h13 hd1 hfr2 (by decide +kernel)
  have hi2 := zl_ifr hS1 hi1 hx2 hfr2 (by decide +kernel)
  have b2 : (zp_n F1 ma 13 ≤ 380 → rn2 = zp_n F1 ma 13 + 20 ∧ zp_n F2 ma 13 = zp_n F1 ma 13 + 20 ∧ ∀ j : Nat, zp_n F2 (zp_n F1 ma 12).toNat (2000 + j) = zF_5 (fun j => zp_n F1 (zp_n F1 ma 12).toNat (2000 + j)) (zp_n F1 ma 13) (zl_y xs j 1) (zl_y xs j 2) (zl_y xs j 3) (zl_y xs j 4) (zl_y xs j 5) j) ∧ (¬ (zp_n F1 ma 13 ≤ 380) → rn2 = -1 ∧ zp_n F2 ma 13 = zp_n F1 ma 13 ∧ ∀ j : Nat, zp_n F2 (zp_n F1 ma 12).toNat (2000 + j) = (fun j => zp_n F1 (zp_n F1 ma 12).toNat (2000 + j)) j) := hB2
  rw [hS1.2.2.2.2.2.2.2.1, Int.toNat_natCast] at b2
  obtain ⟨t0, t1⟩ := ht
  rw [m13, ← t0] at b2
  have x71 : zp_n F2 tp 1 = zp_n F1 tp 1 := zp_nf hfr2 hS1.2.2.1.2 (by decide +kernel)
  have xtb : ∀ j, zp_n F2 tb (2000 + j) = zp_n F1 tb (2000 + j) := fun j => zp_nc hfr2 hS1.2.2.2.1.2 (by decide +kernel) _
  have hh : rn1 = rn2 ∧ zl_t ma tp tb mt (zp_n F2) := by
    by_cases hl : zp_n F tp 1 ≤ 380
    · obtain ⟨r1, l1, g1⟩ := b1.1 hl
      obtain ⟨r2, l2, g2⟩ := b2.1 hl
      refine ⟨r1.trans r2.symm, by rw [x71, l1, l2], fun j hj => ?_⟩
      rw [x71, l1] at hj
      rw [xtb, g1 j, g2 j]
      exact zF_5c (fun j hj => (t1 j hj).trans (mmt j).symm) j hj
    · obtain ⟨r1, l1, g1⟩ := b1.2 hl
      obtain ⟨r2, l2, g2⟩ := b2.2 hl
      refine ⟨r1.trans r2.symm, by rw [x71, l1, l2], fun j hj => ?_⟩
      rw [x71, l1] at hj
      rw [xtb, g1 j, g2 j]
      exact (t1 j hj).trans (mmt j).symm
  have e3 := hh.1
  have ht2 := hh.2
  have hc2 := hc2
  have hR : zl_R xa ma P2 (zp_n F2) := ⟨tn, im, tp, tb, rw_, ri, kp, mt, hS2, hc2, hd2, ht2, hi2⟩
  have h12 := hx2 _ _ h12
  have h13 := hx2 _ _ h13
  refine lv_goto (pc := 547) (tgt := 1372) hC.1 hC.2.1 (zd_law7 (547, .goto 825, 3, 0, []) (List.mem_of_getElem? (i := 27) rfl)) (by decide) ?_
  exact kk P2 F2 H2 locs2 hI2 h12 h13 hR
/-- case 8 -/
theorem zl_c8 {p : Program} {l : Launch} {e : Env} {s : State} {m : MethodId} {args : Array Value} {below : List Frame} {meth : Method} {c : Code} {Q : State → Prop} {w : zk_W} {b L : Nat} {xs : Nat → Int32} (hC : zl_C p s m args c w b L xs) {xa ma j : Nat} (hj : 6 * j + 5 < L) {P : Nat → Option Nat} {F : Nat → va_E} {H : Heap} {locs : List Loc} {cu su : Nat} {ls : Array Slot} (hl : lv_has ls 4 [(0, .ref b), (1, .ref xa), (2, .ref ma), (3, .int (nI (6 * j)))]) (hI : zl_I w s P F H locs) (h12 : P xa = some 12) (h13 : P ma = some 13) (hR : zl_R xa ma P (zp_n F)) (hf : cu + 16 ≤ 600000 ∧ su + 940 ≤ 7302250) (kk : ∀ (P' : Nat → Option Nat) (F' : Nat → va_E) (H' : Heap) (locs' : List Loc), zl_I w s P' F' H' locs' → P' xa = some 12 → P' ma = some 13 → zl_R xa ma P' (zp_n F') → W p l e room_1 s m args below meth c H' locs' (cu + 16) (su + 940) Q (F0 m 1372 ls [])) : W p l e room_1 s m args below meth c H locs cu su Q (F0 m 550 ls []) := by
  have hW : zh_W w := hC.2.2.2.2.2.2.2.2.1
  have hl0 := lv_at hl 0 rfl
  have hl1 := lv_at hl 1 rfl
  have hl2 := lv_at hl 2 rfl
  have hl3 := lv_at hl 3 rfl
  refine zl_this (pc := 550) (k := 1) (i := 1) (a := xa) hC (zd_law7 (550, .aload_n 1, 1, 0, []) (List.mem_of_getElem? (i := 28) rfl)) rfl hl1 ?_
  refine zl_arg (pc := 551) (j := j) (k := 1) (n := 1) hC hI (by omega) (by decide) hl0 hl3 (zd_law7 (551, .aload_n 0, 1, 0, []) (List.mem_of_getElem? (i := 29) rfl)) (zd_law7 (552, .iload_n 3, 1, 0, []) (List.mem_of_getElem? (i := 30) rfl)) (zd_law7 (553, .iconst 1, 1, 0, []) (List.mem_of_getElem? (i := 31) rfl)) (zd_law7 (554, .iadd, 1, 0, []) (List.mem_of_getElem? (i := 32) rfl)) (zd_law7 (555, .iaload, 1, 0, []) (List.mem_of_getElem? (i := 33) rfl)) ?_
  refine zl_callp (pc := 556) (how := 0) (idx := 48) (mi := 34) (mcm := 16) (msm := 940) (pl := [681, 115, 682, 683]) hC (zX_et1 hW) (by decide +kernel) rfl (by decide +kernel) (zd_law7 (556, .invokevirtual 48, 3, 0, []) (List.mem_of_getElem? (i := 34) rfl)) (zd_law7 (559, .pop, 1, 0, []) (List.mem_of_getElem? (i := 35) rfl)) hI [(xa : Int), zl_y xs j 1] rfl ⟨zp_o2 h12, zl_yo, trivial⟩ trivial hl.1 hf (fun al1 hal1 rn1 P1 F1 H1 locs1 hx1 hI1 hfr1 hok1 hcs1 hB1 => ?_)
  obtain ⟨tn, im, tp, tb, rw_, ri, kp, mt, hS, hc, hd, ht, hi⟩ := hR
  have hS1 := zl_Sfr hS h12 h13 hx1 hfr1 (by decide +kernel)
  have hc1 := zl_cfr hS hc hfr1 (by decide +kernel)
  have hd1 := zl_dfr h12 h13 hd hfr1 (by decide +kernel)
  have hi1 := zl_ifr hS hi hx1 hfr1 (by decide +kernel)
  have b1 : (0 ≤ zl_y xs j 1 ∧ zl_y xs j 1 ≤ zp_n F (zp_n F xa 8).toNat 1 → rn1 = zl_y xs j 1 ∧ zp_n F1 (zp_n F xa 8).toNat 1 = zl_y xs j 1) ∧ (¬ (0 ≤ zl_y xs j 1 ∧ zl_y xs j 1 ≤ zp_n F (zp_n F xa 8).toNat 1) → rn1 = -1 ∧ zp_n F1 (zp_n F xa 8).toNat 1 = zp_n F (zp_n F xa 8).toNat 1) := hB1.2
  rw [hS.2.2.1.1, Int.toNat_natCast] at b1
  have m13 : zp_n F1 ma 13 = zp_n F ma 13 := zp_nf hfr1 h13 (by decide +kernel)
  have mmt : ∀ j, zp_n F1 mt (2000 + j) = zp_n F mt (2000 + j) := fun j => zp_nc hfr1 hS.2.2.2.2.2.2.2.2 (by decide +kernel) _
  have mtb : ∀ j, zp_n F1 tb (2000 + j) = zp_n F tb (2000 + j) := fun j => zp_nc hfr1 hS.2.2.2.1.2 (by decide +kernel) _
  have h12 := hx1 _ _ h12
  have h13 := hx1 _ _ h13
  refine zl_this (pc := 560) (k := 2) (i := 2) (a := ma) hC (zd_law7 (560, .aload_n 2, 1, 0, []) (List.mem_of_getElem? (i := 36) rfl)) rfl hl2 ?_
  refine zl_arg (pc := 561) (j := j) (k := 1) (n := 1) hC hI1 (by omega) (by decide) hl0 hl3 (zd_law7 (561, .aload_n 0, 1, 0, []) (List.mem_of_getElem? (i := 37) rfl)) (zd_law7 (562, .iload_n 3, 1, 0, []) (List.mem_of_getElem? (i := 38) rfl)) (zd_law7 (563, .iconst 1, 1, 0, []) (List.mem_of_getElem? (i := 39) rfl)) (zd_law8 (564, .iadd, 1, 0, []) (List.mem_of_getElem? (i := 0) rfl)) (zd_law8 (565, .iaload, 1, 0, []) (List.mem_of_getElem? (i := 1) rfl)) ?_
  refine zl_callp (pc := 566) (how := 0) (idx := 52) (mi := 207) (mcm := 0) (msm := 0) (pl := [1661, 128, 1662, 1663]) hC (zX_en2 hW) (by decide +kernel) rfl (by decide +kernel) (zd_law8 (566, .invokevirtual 52, 3, 0, []) (List.mem_of_getElem? (i := 2) rfl)) (zd_law8 (569, .pop, 1, 0, []) (List.mem_of_getElem? (i := 3) rfl)) hI1 [(ma : Int), zl_y xs j 1] rfl ⟨zp_o2 h13, zl_yo, trivial⟩ trivial hl.1 hf (fun al2 hal2 rn2 P2 F2 H2 locs2 hx2 hI2 hfr2 hok2 hcs2 hB2 => ?_)
  have hS2 := zl_Sfr hS1 h12 h13 hx2 hfr2 (by decide +kernel)
  have hc2 := zl_cfr hS1 hc1 hfr2 (by decide +kernel)
  have hd2 := zl_dfr h12 h13 hd1 hfr2 (by decide +kernel)
  have hi2 := zl_ifr hS1 hi1 hx2 hfr2 (by decide +kernel)
  have b2 : (0 ≤ zl_y xs j 1 ∧ zl_y xs j 1 ≤ zp_n F1 ma 13 → rn2 = zl_y xs j 1 ∧ zp_n F2 ma 13 = zl_y xs j 1) ∧ (¬ (0 ≤ zl_y xs j 1 ∧ zl_y xs j 1 ≤ zp_n F1 ma 13) → rn2 = -1 ∧ zp_n F2 ma 13 = zp_n F1 ma 13) := hB2.2
  obtain ⟨t0, t1⟩ := ht
  rw [m13, ← t0] at b2
  have x71 : zp_n F2 tp 1 = zp_n F1 tp 1 := zp_nf hfr2 hS1.2.2.1.2 (by decide +kernel)
  have xtb : ∀ j, zp_n F2 tb (2000 + j) = zp_n F1 tb (2000 + j) := fun j => zp_nc hfr2 hS1.2.2.2.1.2 (by decide +kernel) _
  have xmt : ∀ j, zp_n F2 mt (2000 + j) = zp_n F1 mt (2000 + j) := fun j => zp_nc hfr2 hS1.2.2.2.2.2.2.2.2 (by decide +kernel) _
  have e3 : rn1 = rn2 := by omega
  have ht2 : zl_t ma tp tb mt (zp_n F2) := ⟨by omega, fun j hj => by rw [xtb, mtb, xmt, mmt]; exact t1 j (by omega)⟩
  have hR : zl_R xa ma P2 (zp_n F2) := ⟨tn, im, tp, tb, rw_, ri, kp, mt, hS2, hc2, hd2, ht2, hi2⟩
  have h12 := hx2 _ _ h12
  have h13 := hx2 _ _ h13
  refine lv_goto (pc := 570) (tgt := 1372) hC.1 hC.2.1 (zd_law8 (570, .goto 802, 3, 0, []) (List.mem_of_getElem? (i := 4) rfl)) (by decide) ?_
  exact kk P2 F2 H2 locs2 hI2 h12 h13 hR
/-- case 9 -/
theorem zl_c9 {p : Program} {l : Launch} {e : Env} {s : State} {m : MethodId} {args : Array Value} {below : List Frame} {meth : Method} {c : Code} {Q : State → Prop} {w : zk_W} {b L : Nat} {xs : Nat → Int32} (hC : zl_C p s m args c w b L xs) {xa ma j : Nat} (hj : 6 * j + 5 < L) {P : Nat → Option Nat} {F : Nat → va_E} {H : Heap} {locs : List Loc} {cu su : Nat} {ls : Array Slot} (hl : lv_has ls 4 [(0, .ref b), (1, .ref xa), (2, .ref ma), (3, .int (nI (6 * j)))]) (hI : zl_I w s P F H locs) (h12 : P xa = some 12) (h13 : P ma = some 13) (hR : zl_R xa ma P (zp_n F)) (hf : cu + 16 ≤ 600000 ∧ su + 940 ≤ 7302250) (kk : ∀ (P' : Nat → Option Nat) (F' : Nat → va_E) (H' : Heap) (locs' : List Loc), zl_I w s P' F' H' locs' → P' xa = some 12 → P' ma = some 13 → zl_R xa ma P' (zp_n F') → W p l e room_1 s m args below meth c H' locs' (cu + 16) (su + 940) Q (F0 m 1372 ls [])) : W p l e room_1 s m args below meth c H locs cu su Q (F0 m 573 ls []) := by
  have hW : zh_W w := hC.2.2.2.2.2.2.2.2.1
  have hl0 := lv_at hl 0 rfl
  have hl1 := lv_at hl 1 rfl
  have hl2 := lv_at hl 2 rfl
  have hl3 := lv_at hl 3 rfl
  refine zl_this (pc := 573) (k := 1) (i := 1) (a := xa) hC (zd_law8 (573, .aload_n 1, 1, 0, []) (List.mem_of_getElem? (i := 5) rfl)) rfl hl1 ?_
  refine zl_callp (pc := 574) (how := 0) (idx := 53) (mi := 35) (mcm := 16) (msm := 940) (pl := [685, 115, 686, 687]) hC (zX_rws hW) (by decide +kernel) rfl (by decide +kernel) (zd_law8 (574, .invokevirtual 53, 3, 0, []) (List.mem_of_getElem? (i := 6) rfl)) (zd_law8 (577, .pop, 1, 0, []) (List.mem_of_getElem? (i := 7) rfl)) hI [(xa : Int)] rfl ⟨zp_o2 h12, trivial⟩ trivial hl.1 hf (fun al1 hal1 rn1 P1 F1 H1 locs1 hx1 hI1 hfr1 hok1 hcs1 hB1 => ?_)
  obtain ⟨tn, im, tp, tb, rw_, ri, kp, mt, hS, hc, hd, ht, hi⟩ := hR
  have hS1 := zl_Sfr hS h12 h13 hx1 hfr1 (by decide +kernel)
  have hi1 := zl_ifr hS hi hx1 hfr1 (by decide +kernel)
  have x11 : zp_n F1 tn 1 = zp_n F tn 1 := zp_nf hfr1 hS.1.2 (by decide +kernel)
  have x19 : zp_n F1 tn 9 = zp_n F tn 9 := zp_nf hfr1 hS.1.2 (by decide +kernel)
  have y10 : zp_n F1 rw_ (2000 + 0) = zp_n F rw_ (2000 + 0) := zp_ne hfr1 hS.2.2.2.2.1.2 (by decide +kernel)
  have y11 : zp_n F1 rw_ (2000 + 1) = zp_n F rw_ (2000 + 1) := zp_ne hfr1 hS.2.2.2.2.1.2 (by decide +kernel)
  have y12 : zp_n F1 rw_ (2000 + 2) = zp_n F rw_ (2000 + 2) := zp_ne hfr1 hS.2.2.2.2.1.2 (by decide +kernel)
  have b1 : ((zp_n F (zp_n F xa 8).toNat 1) = 0 → rn1 = -6 ∧ (zp_n F1 (zp_n F xa 0).toNat 3) = (zp_n F (zp_n F xa 0).toNat 3) ∧ (zp_n F1 xa 17) = (zp_n F xa 17)) ∧ (¬ (zp_n F (zp_n F xa 8).toNat 1) = 0 → rn1 = zR_w (fun j => zp_n F (zp_n F (zp_n F xa 8).toNat 0).toNat (2000 + j)) (zp_n F (zp_n F xa 8).toNat 1) (zp_n F (zp_n F xa 0).toNat 1) (zp_n F (zp_n F xa 0).toNat 3) (((zp_n F (zp_n F xa 8).toNat 1).toNat + 3) / 4) - (zp_n F (zp_n F xa 0).toNat 3) ∧ (zp_n F1 (zp_n F xa 0).toNat 3) = zR_w (fun j => zp_n F (zp_n F (zp_n F xa 8).toNat 0).toNat (2000 + j)) (zp_n F (zp_n F xa 8).toNat 1) (zp_n F (zp_n F xa 0).toNat 1) (zp_n F (zp_n F xa 0).toNat 3) (((zp_n F (zp_n F xa 8).toNat 1).toNat + 3) / 4) ∧ (zp_n F1 xa 17) = (((((zp_n F (zp_n F xa 8).toNat 1).toNat + 3) / 4 : Nat) : Int)) - (zR_w (fun j => zp_n F (zp_n F (zp_n F xa 8).toNat 0).toNat (2000 + j)) (zp_n F (zp_n F xa 8).toNat 1) (zp_n F (zp_n F xa 0).toNat 1) (zp_n F (zp_n F xa 0).toNat 3) (((zp_n F (zp_n F xa 8).toNat 1).toNat + 3) / 4) - (zp_n F (zp_n F xa 0).toNat 3))) ∧ (zp_n F1 (zp_n F xa 8).toNat 1) = 0 := hB1
  rw [hS.2.2.1.1, hS.1.1, Int.toNat_natCast, Int.toNat_natCast, hS.2.2.2.1.1, Int.toNat_natCast] at b1
  have m11 : zp_n F1 ma 11 = zp_n F ma 11 := zp_nf hfr1 h13 (by decide +kernel)
  have m13 : zp_n F1 ma 13 = zp_n F ma 13 := zp_nf hfr1 h13 (by decide +kernel)
  have mmt : ∀ j, zp_n F1 mt (2000 + j) = zp_n F mt (2000 + j) := fun j => zp_nc hfr1 hS.2.2.2.2.2.2.2.2 (by decide +kernel) _
  have h12 := hx1 _ _ h12
  have h13 := hx1 _ _ h13
  refine zl_this (pc := 578) (k := 2) (i := 2) (a := ma) hC (zd_law8 (578, .aload_n 2, 1, 0, []) (List.mem_of_getElem? (i := 8) rfl)) rfl hl2 ?_
  refine zl_callp (pc := 579) (how := 0) (idx := 57) (mi := 203) (mcm := 0) (msm := 0) (pl := [1645, 128, 1646, 1647]) hC (zX_mrw hW) (by decide +kernel) rfl (by decide +kernel) (zd_law8 (579, .invokevirtual 57, 3, 0, []) (List.mem_of_getElem? (i := 9) rfl)) (zd_law8 (582, .pop, 1, 0, []) (List.mem_of_getElem? (i := 10) rfl)) hI1 [(ma : Int)] rfl ⟨zp_o2 h13, trivial⟩ trivial hl.1 hf (fun al2 hal2 rn2 P2 F2 H2 locs2 hx2 hI2 hfr2 hok2 hcs2 hB2 => ?_)
  have hS2 := zl_Sfr hS1 h12 h13 hx2 hfr2 (by decide +kernel)
  have hi2 := zl_ifr hS1 hi1 hx2 hfr2 (by decide +kernel)
  have x21 : zp_n F2 tn 1 = zp_n F1 tn 1 := zp_nf hfr2 hS1.1.2 (by decide +kernel)
  have x23 : zp_n F2 tn 3 = zp_n F1 tn 3 := zp_nf hfr2 hS1.1.2 (by decide +kernel)
  have x29 : zp_n F2 tn 9 = zp_n F1 tn 9 := zp_nf hfr2 hS1.1.2 (by decide +kernel)
  have y20 : zp_n F2 rw_ (2000 + 0) = zp_n F1 rw_ (2000 + 0) := zp_ne hfr2 hS1.2.2.2.2.1.2 (by decide +kernel)
  have y22 : zp_n F2 rw_ (2000 + 2) = zp_n F1 rw_ (2000 + 2) := zp_ne hfr2 hS1.2.2.2.2.1.2 (by decide +kernel)
  have b2 : ((zp_n F1 ma 13) = 0 → rn2 = -6 ∧ (zp_n F2 (zp_n F1 ma 3).toNat (2000 + 1)) = (zp_n F1 (zp_n F1 ma 3).toNat (2000 + 1)) ∧ (zp_n F2 ma 11) = (zp_n F1 ma 11)) ∧ (¬ (zp_n F1 ma 13) = 0 → rn2 = zR_w (fun j => zp_n F1 (zp_n F1 ma 12).toNat (2000 + j)) (zp_n F1 ma 13) (zp_n F1 (zp_n F1 ma 3).toNat (2000 + 0)) (zp_n F1 (zp_n F1 ma 3).toNat (2000 + 1)) (((zp_n F1 ma 13).toNat + 3) / 4) - (zp_n F1 (zp_n F1 ma 3).toNat (2000 + 1)) ∧ (zp_n F2 (zp_n F1 ma 3).toNat (2000 + 1)) = zR_w (fun j => zp_n F1 (zp_n F1 ma 12).toNat (2000 + j)) (zp_n F1 ma 13) (zp_n F1 (zp_n F1 ma 3).toNat (2000 + 0)) (zp_n F1 (zp_n F1 ma 3).toNat (2000 + 1)) (((zp_n F1 ma 13).toNat + 3) / 4) ∧ (zp_n F2 ma 11) = (((((zp_n F1 ma 13).toNat + 3) / 4 : Nat) : Int)) - (zR_w (fun j => zp_n F1 (zp_n F1 ma 12).toNat (2000 + j)) (zp_n F1 ma 13) (zp_n F1 (zp_n F1 ma 3).toNat (2000 + 0)) (zp_n F1 (zp_n F1 ma 3).toNat (2000 + 1)) (((zp_n F1 ma 13).toNat + 3) / 4) - (zp_n F1 (zp_n F1 ma 3).toNat (2000 + 1)))) ∧ (zp_n F2 ma 13) = 0 := hB2
  rw [hS1.2.2.2.2.1.1, hS1.2.2.2.2.2.2.2.1, Int.toNat_natCast, Int.toNat_natCast] at b2
  obtain ⟨t0, t1⟩ := ht
  obtain ⟨c0, c1, c2⟩ := hc
  rw [m13, ← t0, y10, ← c0, y11, ← c1] at b2
  have hwc := zR_wc (B := fun j => zp_n F tb (2000 + j)) (B' := fun j => zp_n F1 mt (2000 + j)) (len := zp_n F tp 1) (pe := zp_n F tn 1) (n := zp_n F tn 3) (fun j hj => (t1 j hj).trans (mmt j).symm) (((zp_n F tp 1).toNat + 3) / 4)
  rw [← hwc] at b2
  clear hwc
  generalize zR_w (fun j => zp_n F tb (2000 + j)) (zp_n F tp 1) (zp_n F tn 1) (zp_n F tn 3) (((zp_n F tp 1).toNat + 3) / 4) = wz at b1 b2
  generalize ((((zp_n F tp 1).toNat + 3) / 4 : Nat) : Int) = kz at b1 b2
  have x17 : zp_n F2 xa 17 = zp_n F1 xa 17 := zp_nf hfr2 h12 (by decide +kernel)
  have x71 : zp_n F2 tp 1 = zp_n F1 tp 1 := zp_nf hfr2 hS1.2.2.1.2 (by decide +kernel)
  have hd : zp_n F xa 17 = zp_n F ma 11 := hd
  have e3 : rn1 = rn2 := by omega
  have hc2 : zl_c tn rw_ (zp_n F2) := ⟨by omega, by omega, by omega⟩
  have hd2 : zl_d xa ma (zp_n F2) := (by omega : zp_n F2 xa 17 = zp_n F2 ma 11)
  have ht2 : zl_t ma tp tb mt (zp_n F2) := ⟨by omega, fun j hj => by omega⟩
  have hR : zl_R xa ma P2 (zp_n F2) := ⟨tn, im, tp, tb, rw_, ri, kp, mt, hS2, hc2, hd2, ht2, hi2⟩
  have h12 := hx2 _ _ h12
  have h13 := hx2 _ _ h13
  refine lv_goto (pc := 583) (tgt := 1372) hC.1 hC.2.1 (zd_law8 (583, .goto 789, 3, 0, []) (List.mem_of_getElem? (i := 11) rfl)) (by decide) ?_
  exact kk P2 F2 H2 locs2 hI2 h12 h13 hR
/-- case 10 -/
theorem zl_c10 {p : Program} {l : Launch} {e : Env} {s : State} {m : MethodId} {args : Array Value} {below : List Frame} {meth : Method} {c : Code} {Q : State → Prop} {w : zk_W} {b L : Nat} {xs : Nat → Int32} (hC : zl_C p s m args c w b L xs) {xa ma j : Nat} (hj : 6 * j + 5 < L) {P : Nat → Option Nat} {F : Nat → va_E} {H : Heap} {locs : List Loc} {cu su : Nat} {ls : Array Slot} (hl : lv_has ls 4 [(0, .ref b), (1, .ref xa), (2, .ref ma), (3, .int (nI (6 * j)))]) (hI : zl_I w s P F H locs) (h12 : P xa = some 12) (h13 : P ma = some 13) (hR : zl_R xa ma P (zp_n F)) (hf : cu + 16 ≤ 600000 ∧ su + 940 ≤ 7302250) (kk : ∀ (P' : Nat → Option Nat) (F' : Nat → va_E) (H' : Heap) (locs' : List Loc), zl_I w s P' F' H' locs' → P' xa = some 12 → P' ma = some 13 → zl_R xa ma P' (zp_n F') → W p l e room_1 s m args below meth c H' locs' (cu + 16) (su + 940) Q (F0 m 1372 ls [])) : W p l e room_1 s m args below meth c H locs cu su Q (F0 m 586 ls []) := by
  have hW : zh_W w := hC.2.2.2.2.2.2.2.2.1
  have hl0 := lv_at hl 0 rfl
  have hl1 := lv_at hl 1 rfl
  have hl2 := lv_at hl 2 rfl
  have hl3 := lv_at hl 3 rfl
  refine zl_this (pc := 586) (k := 1) (i := 1) (a := xa) hC (zd_law8 (586, .aload_n 1, 1, 0, []) (List.mem_of_getElem? (i := 12) rfl)) rfl hl1 ?_
  refine zl_callp (pc := 587) (how := 0) (idx := 58) (mi := 38) (mcm := 16) (msm := 940) (pl := [697, 115, 698, 699]) hC (zX_dus hW) (by decide +kernel) rfl (by decide +kernel) (zd_law8 (587, .invokevirtual 58, 3, 0, []) (List.mem_of_getElem? (i := 13) rfl)) (zd_law8 (590, .pop, 1, 0, []) (List.mem_of_getElem? (i := 14) rfl)) hI [(xa : Int)] rfl ⟨zp_o2 h12, trivial⟩ trivial hl.1 hf (fun al1 hal1 rn1 P1 F1 H1 locs1 hx1 hI1 hfr1 hok1 hcs1 hB1 => ?_)
  obtain ⟨tn, im, tp, tb, rw_, ri, kp, mt, hS, hc, hd, ht, hi⟩ := hR
  have hS1 := zl_Sfr hS h12 h13 hx1 hfr1 (by decide +kernel)
  have hc1 := zl_cfr hS hc hfr1 (by decide +kernel)
  have hd1 := zl_dfr h12 h13 hd hfr1 (by decide +kernel)
  have ht1 := zl_tfr hS h13 ht hfr1 (by decide +kernel)
  have hi1 := zl_ifr hS hi hx1 hfr1 (by decide +kernel)
  have b1 : rn1 = zp_n F xa 17 := hB1.2
  have h13o := h13
  have h12 := hx1 _ _ h12
  have h13 := hx1 _ _ h13
  refine zl_this (pc := 591) (k := 2) (i := 2) (a := ma) hC (zd_law8 (591, .aload_n 2, 1, 0, []) (List.mem_of_getElem? (i := 15) rfl)) rfl hl2 ?_
  refine zl_callp (pc := 592) (how := 0) (idx := 61) (mi := 204) (mcm := 0) (msm := 0) (pl := [1649, 128, 1650, 1651]) hC (zX_mdu hW) (by decide +kernel) rfl (by decide +kernel) (zd_law8 (592, .invokevirtual 61, 3, 0, []) (List.mem_of_getElem? (i := 16) rfl)) (zd_law8 (595, .pop, 1, 0, []) (List.mem_of_getElem? (i := 17) rfl)) hI1 [(ma : Int)] rfl ⟨zp_o2 h13, trivial⟩ trivial hl.1 hf (fun al2 hal2 rn2 P2 F2 H2 locs2 hx2 hI2 hfr2 hok2 hcs2 hB2 => ?_)
  have hS2 := zl_Sfr hS1 h12 h13 hx2 hfr2 (by decide +kernel)
  have hc2 := zl_cfr hS1 hc1 hfr2 (by decide +kernel)
  have hd2 := zl_dfr h12 h13 hd1 hfr2 (by decide +kernel)
  have ht2 := zl_tfr hS1 h13 ht1 hfr2 (by decide +kernel)
  have hi2 := zl_ifr hS1 hi1 hx2 hfr2 (by decide +kernel)
  have b2 : rn2 = zp_n F1 ma 11 := hB2.2
  have b3 : zp_n F1 ma 11 = zp_n F ma 11 := zp_nf hfr1 h13o (by decide +kernel)
  have e3 : rn1 = rn2 := by rw [b1, b2, b3]; exact hd
  have hR : zl_R xa ma P2 (zp_n F2) := ⟨tn, im, tp, tb, rw_, ri, kp, mt, hS2, hc2, hd2, ht2, hi2⟩
  have h12 := hx2 _ _ h12
  have h13 := hx2 _ _ h13
  refine lv_goto (pc := 596) (tgt := 1372) hC.1 hC.2.1 (zd_law8 (596, .goto 776, 3, 0, []) (List.mem_of_getElem? (i := 18) rfl)) (by decide) ?_
  exact kk P2 F2 H2 locs2 hI2 h12 h13 hR
/-- case 11 -/
theorem zl_c11 {p : Program} {l : Launch} {e : Env} {s : State} {m : MethodId} {args : Array Value} {below : List Frame} {meth : Method} {c : Code} {Q : State → Prop} {w : zk_W} {b L : Nat} {xs : Nat → Int32} (hC : zl_C p s m args c w b L xs) {xa ma j : Nat} (hj : 6 * j + 5 < L) {P : Nat → Option Nat} {F : Nat → va_E} {H : Heap} {locs : List Loc} {cu su : Nat} {ls : Array Slot} (hl : lv_has ls 4 [(0, .ref b), (1, .ref xa), (2, .ref ma), (3, .int (nI (6 * j)))]) (hI : zl_I w s P F H locs) (h12 : P xa = some 12) (h13 : P ma = some 13) (hR : zl_R xa ma P (zp_n F)) (hf : cu + 16 ≤ 600000 ∧ su + 940 ≤ 7302250) (kk : ∀ (P' : Nat → Option Nat) (F' : Nat → va_E) (H' : Heap) (locs' : List Loc), zl_I w s P' F' H' locs' → P' xa = some 12 → P' ma = some 13 → zl_R xa ma P' (zp_n F') → W p l e room_1 s m args below meth c H' locs' (cu + 16) (su + 940) Q (F0 m 1372 ls [])) : W p l e room_1 s m args below meth c H locs cu su Q (F0 m 599 ls []) := by
  have hW : zh_W w := hC.2.2.2.2.2.2.2.2.1
  have hl0 := lv_at hl 0 rfl
  have hl1 := lv_at hl 1 rfl
  have hl2 := lv_at hl 2 rfl
  have hl3 := lv_at hl 3 rfl
  refine zl_this (pc := 599) (k := 1) (i := 1) (a := xa) hC (zd_law8 (599, .aload_n 1, 1, 0, []) (List.mem_of_getElem? (i := 19) rfl)) rfl hl1 ?_
  refine zl_callp (pc := 600) (how := 0) (idx := 62) (mi := 39) (mcm := 16) (msm := 940) (pl := [701, 115, 702, 703]) hC (zq_lw_B hW) (by decide +kernel) rfl (by decide +kernel) (zd_law8 (600, .invokevirtual 62, 3, 0, []) (List.mem_of_getElem? (i := 20) rfl)) (zd_law8 (603, .pop, 1, 0, []) (List.mem_of_getElem? (i := 21) rfl)) hI [(xa : Int)] rfl ⟨zp_o2 h12, trivial⟩ trivial hl.1 hf (fun al1 hal1 rn1 P1 F1 H1 locs1 hx1 hI1 hfr1 hok1 hcs1 hB1 => ?_)
  obtain ⟨tn, im, tp, tb, rw_, ri, kp, mt, hS, hc, hd, ht, hi⟩ := hR
  have hS1 := zl_Sfr hS h12 h13 hx1 hfr1 (by decide +kernel)
  have hc1 := zl_cfr hS hc hfr1 (by decide +kernel)
  have hd1 := zl_dfr h12 h13 hd hfr1 (by decide +kernel)
  have hi1 := zl_ifr hS hi hx1 hfr1 (by decide +kernel)
  obtain ⟨tq, s8, s7, s1⟩ := hB1
  have s8 : zp_n F1 xa 8 = (tq : Int) := s8
  have s1 : zp_n F1 tq 1 = 0 := s1
  obtain rfl : tq = tp := by have := hS1.2.2.1.1; omega
  have h12 := hx1 _ _ h12
  have h13 := hx1 _ _ h13
  refine zl_this (pc := 604) (k := 2) (i := 2) (a := ma) hC (zd_law8 (604, .aload_n 2, 1, 0, []) (List.mem_of_getElem? (i := 22) rfl)) rfl hl2 ?_
  refine zl_callp (pc := 605) (how := 0) (idx := 65) (mi := 209) (mcm := 0) (msm := 0) (pl := [1669, 128, 1670, 1671]) hC (zX_lw13 hW) (by decide +kernel) rfl (by decide +kernel) (zd_law8 (605, .invokevirtual 65, 3, 0, []) (List.mem_of_getElem? (i := 23) rfl)) (zd_law8 (608, .pop, 1, 0, []) (List.mem_of_getElem? (i := 24) rfl)) hI1 [(ma : Int)] rfl ⟨zp_o2 h13, trivial⟩ trivial hl.1 hf (fun al2 hal2 rn2 P2 F2 H2 locs2 hx2 hI2 hfr2 hok2 hcs2 hB2 => ?_)
  have hS2 := zl_Sfr hS1 h12 h13 hx2 hfr2 (by decide +kernel)
  have hc2 := zl_cfr hS1 hc1 hfr2 (by decide +kernel)
  have hd2 := zl_dfr h12 h13 hd1 hfr2 (by decide +kernel)
  have hi2 := zl_ifr hS1 hi1 hx2 hfr2 (by decide +kernel)
  have m2 : zp_n F2 ma 13 = 0 := hB2
  have x71 : zp_n F2 tq 1 = zp_n F1 tq 1 := zp_nf hfr2 s7 (by decide +kernel)
  have ht2 : zl_t ma tq tb mt (zp_n F2) := ⟨by omega, fun j hj => by omega⟩
  have hR : zl_R xa ma P2 (zp_n F2) := ⟨tn, im, tq, tb, rw_, ri, kp, mt, hS2, hc2, hd2, ht2, hi2⟩
  have h12 := hx2 _ _ h12
  have h13 := hx2 _ _ h13
  refine lv_goto (pc := 609) (tgt := 1372) hC.1 hC.2.1 (zd_law8 (609, .goto 763, 3, 0, []) (List.mem_of_getElem? (i := 25) rfl)) (by decide) ?_
  exact kk P2 F2 H2 locs2 hI2 h12 h13 hR
/-- case 12 -/
theorem zl_c12 {p : Program} {l : Launch} {e : Env} {s : State} {m : MethodId} {args : Array Value} {below : List Frame} {meth : Method} {c : Code} {Q : State → Prop} {w : zk_W} {b L : Nat} {xs : Nat → Int32} (hC : zl_C p s m args c w b L xs) {xa ma j : Nat} (hj : 6 * j + 5 < L) {P : Nat → Option Nat} {F : Nat → va_E} {H : Heap} {locs : List Loc} {cu su : Nat} {ls : Array Slot} (hl : lv_has ls 4 [(0, .ref b), (1, .ref xa), (2, .ref ma), (3, .int (nI (6 * j)))]) (hI : zl_I w s P F H locs) (h12 : P xa = some 12) (h13 : P ma = some 13) (hR : zl_R xa ma P (zp_n F)) (hf : cu + 16 ≤ 600000 ∧ su + 940 ≤ 7302250) (kk : ∀ (P' : Nat → Option Nat) (F' : Nat → va_E) (H' : Heap) (locs' : List Loc), zl_I w s P' F' H' locs' → P' xa = some 12 → P' ma = some 13 → zl_R xa ma P' (zp_n F') → W p l e room_1 s m args below meth c H' locs' (cu + 16) (su + 940) Q (F0 m 1372 ls [])) : W p l e room_1 s m args below meth c H locs cu su Q (F0 m 612 ls []) := by
  have hW : zh_W w := hC.2.2.2.2.2.2.2.2.1
  have hl0 := lv_at hl 0 rfl
  have hl1 := lv_at hl 1 rfl
  have hl2 := lv_at hl 2 rfl
  have hl3 := lv_at hl 3 rfl
  refine zl_this (pc := 612) (k := 1) (i := 1) (a := xa) hC (zd_law8 (612, .aload_n 1, 1, 0, []) (List.mem_of_getElem? (i := 26) rfl)) rfl hl1 ?_
  refine zl_callp (pc := 613) (how := 0) (idx := 66) (mi := 79) (mcm := 16) (msm := 940) (pl := [885, 115, 886, 887]) hC (zq_or_B hW) (by decide +kernel) rfl (by decide +kernel) (zd_law8 (613, .invokevirtual 66, 3, 0, []) (List.mem_of_getElem? (i := 27) rfl)) (zd_law8 (616, .pop, 1, 0, []) (List.mem_of_getElem? (i := 28) rfl)) hI [(xa : Int)] rfl ⟨zp_o2 h12, trivial⟩ trivial hl.1 hf (fun al1 hal1 rn1 P1 F1 H1 locs1 hx1 hI1 hfr1 hok1 hcs1 hB1 => ?_)
  obtain ⟨tn, im, tp, tb, rw_, ri, kp, mt, hS, hc, hd, ht, hi⟩ := hR
  have hS1 := zl_Sfr hS h12 h13 hx1 hfr1 (by decide +kernel)
  have hc1 := zl_cfr hS hc hfr1 (by decide +kernel)
  have hd1 := zl_dfr h12 h13 hd hfr1 (by decide +kernel)
  have hi1 := zl_ifr hS hi hx1 hfr1 (by decide +kernel)
  obtain ⟨tq, s8, s7, s1⟩ := hB1
  have s8 : zp_n F1 xa 8 = (tq : Int) := s8
  have s1 : zp_n F1 tq 1 = 0 := s1
  obtain rfl : tq = tp := by have := hS1.2.2.1.1; omega
  have h12 := hx1 _ _ h12
  have h13 := hx1 _ _ h13
  refine zl_this (pc := 617) (k := 2) (i := 2) (a := ma) hC (zd_law8 (617, .aload_n 2, 1, 0, []) (List.mem_of_getElem? (i := 29) rfl)) rfl hl2 ?_
  refine zl_callp (pc := 618) (how := 0) (idx := 69) (mi := 287) (mcm := 0) (msm := 0) (pl := [2000, 128, 2001, 2002]) hC (zX_or13 hW) (by decide +kernel) rfl (by decide +kernel) (zd_law8 (618, .invokevirtual 69, 3, 0, []) (List.mem_of_getElem? (i := 30) rfl)) (zd_law8 (621, .pop, 1, 0, []) (List.mem_of_getElem? (i := 31) rfl)) hI1 [(ma : Int)] rfl ⟨zp_o2 h13, trivial⟩ trivial hl.1 hf (fun al2 hal2 rn2 P2 F2 H2 locs2 hx2 hI2 hfr2 hok2 hcs2 hB2 => ?_)
  have hS2 := zl_Sfr hS1 h12 h13 hx2 hfr2 (by decide +kernel)
  have hc2 := zl_cfr hS1 hc1 hfr2 (by decide +kernel)
  have hd2 := zl_dfr h12 h13 hd1 hfr2 (by decide +kernel)
  have hi2 := zl_ifr hS1 hi1 hx2 hfr2 (by decide +kernel)
  have m2 : zp_n F2 ma 13 = 0 := hB2
  have x71 : zp_n F2 tq 1 = zp_n F1 tq 1 := zp_nf hfr2 s7 (by decide +kernel)
  have ht2 : zl_t ma tq tb mt (zp_n F2) := ⟨by omega, fun j hj => by omega⟩
  have hR : zl_R xa ma P2 (zp_n F2) := ⟨tn, im, tq, tb, rw_, ri, kp, mt, hS2, hc2, hd2, ht2, hi2⟩
  have h12 := hx2 _ _ h12
  have h13 := hx2 _ _ h13
  refine lv_goto (pc := 622) (tgt := 1372) hC.1 hC.2.1 (zd_law8 (622, .goto 750, 3, 0, []) (List.mem_of_getElem? (i := 32) rfl)) (by decide) ?_
  exact kk P2 F2 H2 locs2 hI2 h12 h13 hR
/-- case 13 -/
theorem zl_c13 {p : Program} {l : Launch} {e : Env} {s : State} {m : MethodId} {args : Array Value} {below : List Frame} {meth : Method} {c : Code} {Q : State → Prop} {w : zk_W} {b L : Nat} {xs : Nat → Int32} (hC : zl_C p s m args c w b L xs) {xa ma j : Nat} (hj : 6 * j + 5 < L) {P : Nat → Option Nat} {F : Nat → va_E} {H : Heap} {locs : List Loc} {cu su : Nat} {ls : Array Slot} (hl : lv_has ls 4 [(0, .ref b), (1, .ref xa), (2, .ref ma), (3, .int (nI (6 * j)))]) (hI : zl_I w s P F H locs) (h12 : P xa = some 12) (h13 : P ma = some 13) (hR : zl_R xa ma P (zp_n F)) (hf : cu + 16 ≤ 600000 ∧ su + 940 ≤ 7302250) (kk : ∀ (P' : Nat → Option Nat) (F' : Nat → va_E) (H' : Heap) (locs' : List Loc), zl_I w s P' F' H' locs' → P' xa = some 12 → P' ma = some 13 → zl_R xa ma P' (zp_n F') → W p l e room_1 s m args below meth c H' locs' (cu + 16) (su + 940) Q (F0 m 1372 ls [])) : W p l e room_1 s m args below meth c H locs cu su Q (F0 m 625 ls []) := by
  have hW : zh_W w := hC.2.2.2.2.2.2.2.2.1
  have hl0 := lv_at hl 0 rfl
  have hl1 := lv_at hl 1 rfl
  have hl2 := lv_at hl 2 rfl
  have hl3 := lv_at hl 3 rfl
  refine zl_this (pc := 625) (k := 1) (i := 1) (a := xa) hC (zd_law8 (625, .aload_n 1, 1, 0, []) (List.mem_of_getElem? (i := 33) rfl)) rfl hl1 ?_
  refine zl_callp (pc := 626) (how := 0) (idx := 70) (mi := 115) (mcm := 16) (msm := 940) (pl := [1039, 115, 1040, 1041]) hC (zp_plain (zq_211 hW)) (by decide +kernel) rfl (by decide +kernel) (zd_law8 (626, .invokevirtual 70, 3, 0, []) (List.mem_of_getElem? (i := 34) rfl)) (zd_law8 (629, .pop, 1, 0, []) (List.mem_of_getElem? (i := 35) rfl)) hI [(xa : Int)] rfl ⟨zp_o2 h12, trivial⟩ trivial hl.1 hf (fun al1 hal1 rn1 P1 F1 H1 locs1 hx1 hI1 hfr1 hok1 hcs1 hB1 => ?_)
  have hR := zl_Rfr hR h12 h13 hx1 hfr1 (by decide +kernel)
  have h12 := hx1 _ _ h12
  have h13 := hx1 _ _ h13
  refine zl_this (pc := 630) (k := 2) (i := 2) (a := ma) hC (zd_law8 (630, .aload_n 2, 1, 0, []) (List.mem_of_getElem? (i := 36) rfl)) rfl hl2 ?_
  refine zl_callp (pc := 631) (how := 0) (idx := 73) (mi := 208) (mcm := 0) (msm := 0) (pl := [1665, 128, 1666, 1667]) hC (zp_plain (zq_1047 hW)) (by decide +kernel) rfl (by decide +kernel) (zd_law8 (631, .invokevirtual 73, 3, 0, []) (List.mem_of_getElem? (i := 37) rfl)) (zd_law8 (634, .pop, 1, 0, []) (List.mem_of_getElem? (i := 38) rfl)) hI1 [(ma : Int)] rfl ⟨zp_o2 h13, trivial⟩ trivial hl.1 hf (fun al2 hal2 rn2 P2 F2 H2 locs2 hx2 hI2 hfr2 hok2 hcs2 hB2 => ?_)
  have hR := zl_Rfr hR h12 h13 hx2 hfr2 (by decide +kernel)
  have h12 := hx2 _ _ h12
  have h13 := hx2 _ _ h13
  refine lv_goto (pc := 635) (tgt := 1372) hC.1 hC.2.1 (zd_law8 (635, .goto 737, 3, 0, []) (List.mem_of_getElem? (i := 39) rfl)) (by decide) ?_
  exact kk P2 F2 H2 locs2 hI2 h12 h13 hR
/-- case 14 -/
theorem zl_c14 {p : Program} {l : Launch} {e : Env} {s : State} {m : MethodId} {args : Array Value} {below : List Frame} {meth : Method} {c : Code} {Q : State → Prop} {w : zk_W} {b L : Nat} {xs : Nat → Int32} (hC : zl_C p s m args c w b L xs) {xa ma j : Nat} (hj : 6 * j + 5 < L) {P : Nat → Option Nat} {F : Nat → va_E} {H : Heap} {locs : List Loc} {cu su : Nat} {ls : Array Slot} (hl : lv_has ls 4 [(0, .ref b), (1, .ref xa), (2, .ref ma), (3, .int (nI (6 * j)))]) (hI : zl_I w s P F H locs) (h12 : P xa = some 12) (h13 : P ma = some 13) (hR : zl_R xa ma P (zp_n F)) (hf : cu + 16 ≤ 600000 ∧ su + 940 ≤ 7302250) (kk : ∀ (P' : Nat → Option Nat) (F' : Nat → va_E) (H' : Heap) (locs' : List Loc), zl_I w s P' F' H' locs' → P' xa = some 12 → P' ma = some 13 → zl_R xa ma P' (zp_n F') → W p l e room_1 s m args below meth c H' locs' (cu + 16) (su + 940) Q (F0 m 1372 ls [])) : W p l e room_1 s m args below meth c H locs cu su Q (F0 m 638 ls []) := by
  have hW : zh_W w := hC.2.2.2.2.2.2.2.2.1
  have hl0 := lv_at hl 0 rfl
  have hl1 := lv_at hl 1 rfl
  have hl2 := lv_at hl 2 rfl
  have hl3 := lv_at hl 3 rfl
  refine zl_this (pc := 638) (k := 1) (i := 1) (a := xa) hC (zd_law9 (638, .aload_n 1, 1, 0, []) (List.mem_of_getElem? (i := 0) rfl)) rfl hl1 ?_
  refine zl_callp (pc := 639) (how := 0) (idx := 74) (mi := 116) (mcm := 16) (msm := 940) (pl := [1043, 115, 1044, 1045]) hC (zp_plain (zq_212 hW)) (by decide +kernel) rfl (by decide +kernel) (zd_law9 (639, .invokevirtual 74, 3, 0, []) (List.mem_of_getElem? (i := 1) rfl)) (zd_law9 (642, .pop, 1, 0, []) (List.mem_of_getElem? (i := 2) rfl)) hI [(xa : Int)] rfl ⟨zp_o2 h12, trivial⟩ trivial hl.1 hf (fun al1 hal1 rn1 P1 F1 H1 locs1 hx1 hI1 hfr1 hok1 hcs1 hB1 => ?_)
  have hR := zl_Rfr hR h12 h13 hx1 hfr1 (by decide +kernel)
  have h12 := hx1 _ _ h12
  have h13 := hx1 _ _ h13
  refine zl_this (pc := 643) (k := 2) (i := 2) (a := ma) hC (zd_law9 (643, .aload_n 2, 1, 0, []) (List.mem_of_getElem? (i := 3) rfl)) rfl hl2 ?_
  refine zl_callp (pc := 644) (how := 0) (idx := 77) (mi := 293) (mcm := 0) (msm := 0) (pl := [2030, 128, 2031, 2032]) hC (zp_plain (zq_1131 hW)) (by decide +kernel) rfl (by decide +kernel) (zd_law9 (644, .invokevirtual 77, 3, 0, []) (List.mem_of_getElem? (i := 4) rfl)) (zd_law9 (647, .pop, 1, 0, []) (List.mem_of_getElem? (i := 5) rfl)) hI1 [(ma : Int)] rfl ⟨zp_o2 h13, trivial⟩ trivial hl.1 hf (fun al2 hal2 rn2 P2 F2 H2 locs2 hx2 hI2 hfr2 hok2 hcs2 hB2 => ?_)
  have hR := zl_Rfr hR h12 h13 hx2 hfr2 (by decide +kernel)
  have h12 := hx2 _ _ h12
  have h13 := hx2 _ _ h13
  refine lv_goto (pc := 648) (tgt := 1372) hC.1 hC.2.1 (zd_law9 (648, .goto 724, 3, 0, []) (List.mem_of_getElem? (i := 6) rfl)) (by decide) ?_
  exact kk P2 F2 H2 locs2 hI2 h12 h13 hR
/-- case 15 -/
theorem zl_c15 {p : Program} {l : Launch} {e : Env} {s : State} {m : MethodId} {args : Array Value} {below : List Frame} {meth : Method} {c : Code} {Q : State → Prop} {w : zk_W} {b L : Nat} {xs : Nat → Int32} (hC : zl_C p s m args c w b L xs) {xa ma j : Nat} (hj : 6 * j + 5 < L) {P : Nat → Option Nat} {F : Nat → va_E} {H : Heap} {locs : List Loc} {cu su : Nat} {ls : Array Slot} (hl : lv_has ls 4 [(0, .ref b), (1, .ref xa), (2, .ref ma), (3, .int (nI (6 * j)))]) (hI : zl_I w s P F H locs) (h12 : P xa = some 12) (h13 : P ma = some 13) (hR : zl_R xa ma P (zp_n F)) (hf : cu + 16 ≤ 600000 ∧ su + 940 ≤ 7302250) (kk : ∀ (P' : Nat → Option Nat) (F' : Nat → va_E) (H' : Heap) (locs' : List Loc), zl_I w s P' F' H' locs' → P' xa = some 12 → P' ma = some 13 → zl_R xa ma P' (zp_n F') → W p l e room_1 s m args below meth c H' locs' (cu + 16) (su + 940) Q (F0 m 1372 ls [])) : W p l e room_1 s m args below meth c H locs cu su Q (F0 m 651 ls []) := by
  have hW : zh_W w := hC.2.2.2.2.2.2.2.2.1
  have hl0 := lv_at hl 0 rfl
  have hl1 := lv_at hl 1 rfl
  have hl2 := lv_at hl 2 rfl
  have hl3 := lv_at hl 3 rfl
  refine zl_this (pc := 651) (k := 1) (i := 1) (a := xa) hC (zd_law9 (651, .aload_n 1, 1, 0, []) (List.mem_of_getElem? (i := 7) rfl)) rfl hl1 ?_
  refine zl_arg (pc := 652) (j := j) (k := 1) (n := 1) hC hI (by omega) (by decide) hl0 hl3 (zd_law9 (652, .aload_n 0, 1, 0, []) (List.mem_of_getElem? (i := 8) rfl)) (zd_law9 (653, .iload_n 3, 1, 0, []) (List.mem_of_getElem? (i := 9) rfl)) (zd_law9 (654, .iconst 1, 1, 0, []) (List.mem_of_getElem? (i := 10) rfl)) (zd_law9 (655, .iadd, 1, 0, []) (List.mem_of_getElem? (i := 11) rfl)) (zd_law9 (656, .iaload, 1, 0, []) (List.mem_of_getElem? (i := 12) rfl)) ?_
  refine zl_callp (pc := 657) (how := 0) (idx := 78) (mi := 117) (mcm := 16) (msm := 940) (pl := [1047, 115, 1048, 1049]) hC (zp_plain (zq_213 hW)) (by decide +kernel) rfl (by decide +kernel) (zd_law9 (657, .invokevirtual 78, 3, 0, []) (List.mem_of_getElem? (i := 13) rfl)) (zd_law9 (660, .pop, 1, 0, []) (List.mem_of_getElem? (i := 14) rfl)) hI [(xa : Int), zl_y xs j 1] rfl ⟨zp_o2 h12, zl_yo, trivial⟩ trivial hl.1 hf (fun al1 hal1 rn1 P1 F1 H1 locs1 hx1 hI1 hfr1 hok1 hcs1 hB1 => ?_)
  have hR := zl_Rfr hR h12 h13 hx1 hfr1 (by decide +kernel)
  have h12 := hx1 _ _ h12
  have h13 := hx1 _ _ h13
  refine zl_this (pc := 661) (k := 2) (i := 2) (a := ma) hC (zd_law9 (661, .aload_n 2, 1, 0, []) (List.mem_of_getElem? (i := 15) rfl)) rfl hl2 ?_
  refine zl_arg (pc := 662) (j := j) (k := 1) (n := 1) hC hI1 (by omega) (by decide) hl0 hl3 (zd_law9 (662, .aload_n 0, 1, 0, []) (List.mem_of_getElem? (i := 16) rfl)) (zd_law9 (663, .iload_n 3, 1, 0, []) (List.mem_of_getElem? (i := 17) rfl)) (zd_law9 (664, .iconst 1, 1, 0, []) (List.mem_of_getElem? (i := 18) rfl)) (zd_law9 (665, .iadd, 1, 0, []) (List.mem_of_getElem? (i := 19) rfl)) (zd_law9 (666, .iaload, 1, 0, []) (List.mem_of_getElem? (i := 20) rfl)) ?_
  refine zl_callp (pc := 667) (how := 0) (idx := 81) (mi := 236) (mcm := 0) (msm := 0) (pl := [1789, 128, 1790, 1791]) hC (zp_plain (zq_1050 hW)) (by decide +kernel) rfl (by decide +kernel) (zd_law9 (667, .invokevirtual 81, 3, 0, []) (List.mem_of_getElem? (i := 21) rfl)) (zd_law9 (670, .pop, 1, 0, []) (List.mem_of_getElem? (i := 22) rfl)) hI1 [(ma : Int), zl_y xs j 1] rfl ⟨zp_o2 h13, zl_yo, trivial⟩ trivial hl.1 hf (fun al2 hal2 rn2 P2 F2 H2 locs2 hx2 hI2 hfr2 hok2 hcs2 hB2 => ?_)
  have hR := zl_Rfr hR h12 h13 hx2 hfr2 (by decide +kernel)
  have h12 := hx2 _ _ h12
  have h13 := hx2 _ _ h13
  refine lv_goto (pc := 671) (tgt := 1372) hC.1 hC.2.1 (zd_law9 (671, .goto 701, 3, 0, []) (List.mem_of_getElem? (i := 23) rfl)) (by decide) ?_
  exact kk P2 F2 H2 locs2 hI2 h12 h13 hR
/-- case 16 -/
theorem zl_c16 {p : Program} {l : Launch} {e : Env} {s : State} {m : MethodId} {args : Array Value} {below : List Frame} {meth : Method} {c : Code} {Q : State → Prop} {w : zk_W} {b L : Nat} {xs : Nat → Int32} (hC : zl_C p s m args c w b L xs) {xa ma j : Nat} (hj : 6 * j + 5 < L) {P : Nat → Option Nat} {F : Nat → va_E} {H : Heap} {locs : List Loc} {cu su : Nat} {ls : Array Slot} (hl : lv_has ls 4 [(0, .ref b), (1, .ref xa), (2, .ref ma), (3, .int (nI (6 * j)))]) (hI : zl_I w s P F H locs) (h12 : P xa = some 12) (h13 : P ma = some 13) (hR : zl_R xa ma P (zp_n F)) (hf : cu + 16 ≤ 600000 ∧ su + 940 ≤ 7302250) (kk : ∀ (P' : Nat → Option Nat) (F' : Nat → va_E) (H' : Heap) (locs' : List Loc), zl_I w s P' F' H' locs' → P' xa = some 12 → P' ma = some 13 → zl_R xa ma P' (zp_n F') → W p l e room_1 s m args below meth c H' locs' (cu + 16) (su + 940) Q (F0 m 1372 ls [])) : W p l e room_1 s m args below meth c H locs cu su Q (F0 m 674 ls []) := by
  have hW : zh_W w := hC.2.2.2.2.2.2.2.2.1
  have hl0 := lv_at hl 0 rfl
  have hl1 := lv_at hl 1 rfl
  have hl2 := lv_at hl 2 rfl
  have hl3 := lv_at hl 3 rfl
  refine zl_this (pc := 674) (k := 1) (i := 1) (a := xa) hC (zd_law9 (674, .aload_n 1, 1, 0, []) (List.mem_of_getElem? (i := 24) rfl)) rfl hl1 ?_
  refine zl_arg (pc := 675) (j := j) (k := 1) (n := 1) hC hI (by omega) (by decide) hl0 hl3 (zd_law9 (675, .aload_n 0, 1, 0, []) (List.mem_of_getElem? (i := 25) rfl)) (zd_law9 (676, .iload_n 3, 1, 0, []) (List.mem_of_getElem? (i := 26) rfl)) (zd_law9 (677, .iconst 1, 1, 0, []) (List.mem_of_getElem? (i := 27) rfl)) (zd_law9 (678, .iadd, 1, 0, []) (List.mem_of_getElem? (i := 28) rfl)) (zd_law9 (679, .iaload, 1, 0, []) (List.mem_of_getElem? (i := 29) rfl)) ?_
  refine zl_arg (pc := 680) (j := j) (k := 2) (n := 2) hC hI (by omega) (by decide) hl0 hl3 (zd_law9 (680, .aload_n 0, 1, 0, []) (List.mem_of_getElem? (i := 30) rfl)) (zd_law9 (681, .iload_n 3, 1, 0, []) (List.mem_of_getElem? (i := 31) rfl)) (zd_law9 (682, .iconst 2, 1, 0, []) (List.mem_of_getElem? (i := 32) rfl)) (zd_law9 (683, .iadd, 1, 0, []) (List.mem_of_getElem? (i := 33) rfl)) (zd_law9 (684, .iaload, 1, 0, []) (List.mem_of_getElem? (i := 34) rfl)) ?_
  refine zl_callp (pc := 685) (how := 0) (idx := 82) (mi := 118) (mcm := 16) (msm := 940) (pl := [1051, 115, 1052, 1053]) hC (zp_plain (zq_215 hW)) (by decide +kernel) rfl (by decide +kernel) (zd_law9 (685, .invokevirtual 82, 3, 0, []) (List.mem_of_getElem? (i := 35) rfl)) (zd_law9 (688, .pop, 1, 0, []) (List.mem_of_getElem? (i := 36) rfl)) hI [(xa : Int), zl_y xs j 1, zl_y xs j 2] rfl ⟨zp_o2 h12, zl_yo, zl_yo, trivial⟩ trivial hl.1 hf (fun al1 hal1 rn1 P1 F1 H1 locs1 hx1 hI1 hfr1 hok1 hcs1 hB1 => ?_)
  have hR := zl_Rfr hR h12 h13 hx1 hfr1 (by decide +kernel)
  have h12 := hx1 _ _ h12
  have h13 := hx1 _ _ h13
  refine zl_this (pc := 689) (k := 2) (i := 2) (a := ma) hC (zd_law9 (689, .aload_n 2, 1, 0, []) (List.mem_of_getElem? (i := 37) rfl)) rfl hl2 ?_
  refine zl_arg (pc := 690) (j := j) (k := 1) (n := 1) hC hI1 (by omega) (by decide) hl0 hl3 (zd_law9 (690, .aload_n 0, 1, 0, []) (List.mem_of_getElem? (i := 38) rfl)) (zd_law9 (691, .iload_n 3, 1, 0, []) (List.mem_of_getElem? (i := 39) rfl)) (zd_law10 (692, .iconst 1, 1, 0, []) (List.mem_of_getElem? (i := 0) rfl)) (zd_law10 (693, .iadd, 1, 0, []) (List.mem_of_getElem? (i := 1) rfl)) (zd_law10 (694, .iaload, 1, 0, []) (List.mem_of_getElem? (i := 2) rfl)) ?_
  refine zl_arg (pc := 695) (j := j) (k := 2) (n := 2) hC hI1 (by omega) (by decide) hl0 hl3 (zd_law10 (695, .aload_n 0, 1, 0, []) (List.mem_of_getElem? (i := 3) rfl)) (zd_law10 (696, .iload_n 3, 1, 0, []) (List.mem_of_getElem? (i := 4) rfl)) (zd_law10 (697, .iconst 2, 1, 0, []) (List.mem_of_getElem? (i := 5) rfl)) (zd_law10 (698, .iadd, 1, 0, []) (List.mem_of_getElem? (i := 6) rfl)) (zd_law10 (699, .iaload, 1, 0, []) (List.mem_of_getElem? (i := 7) rfl)) ?_
  refine zl_callp (pc := 700) (how := 0) (idx := 85) (mi := 237) (mcm := 0) (msm := 0) (pl := [1793, 128, 1794, 1795]) hC (zp_plain (zq_1059 hW)) (by decide +kernel) rfl (by decide +kernel) (zd_law10 (700, .invokevirtual 85, 3, 0, []) (List.mem_of_getElem? (i := 8) rfl)) (zd_law10 (703, .pop, 1, 0, []) (List.mem_of_getElem? (i := 9) rfl)) hI1 [(ma : Int), zl_y xs j 1, zl_y xs j 2] rfl ⟨zp_o2 h13, zl_yo, zl_yo, trivial⟩ trivial hl.1 hf (fun al2 hal2 rn2 P2 F2 H2 locs2 hx2 hI2 hfr2 hok2 hcs2 hB2 => ?_)
  have hR := zl_Rfr hR h12 h13 hx2 hfr2 (by decide +kernel)
  have h12 := hx2 _ _ h12
  have h13 := hx2 _ _ h13
  refine lv_goto (pc := 704) (tgt := 1372) hC.1 hC.2.1 (zd_law10 (704, .goto 668, 3, 0, []) (List.mem_of_getElem? (i := 10) rfl)) (by decide) ?_
  exact kk P2 F2 H2 locs2 hI2 h12 h13 hR
/-- case 17 -/
theorem zl_c17 {p : Program} {l : Launch} {e : Env} {s : State} {m : MethodId} {args : Array Value} {below : List Frame} {meth : Method} {c : Code} {Q : State → Prop} {w : zk_W} {b L : Nat} {xs : Nat → Int32} (hC : zl_C p s m args c w b L xs) {xa ma j : Nat} (hj : 6 * j + 5 < L) {P : Nat → Option Nat} {F : Nat → va_E} {H : Heap} {locs : List Loc} {cu su : Nat} {ls : Array Slot} (hl : lv_has ls 4 [(0, .ref b), (1, .ref xa), (2, .ref ma), (3, .int (nI (6 * j)))]) (hI : zl_I w s P F H locs) (h12 : P xa = some 12) (h13 : P ma = some 13) (hR : zl_R xa ma P (zp_n F)) (hf : cu + 16 ≤ 600000 ∧ su + 940 ≤ 7302250) (kk : ∀ (P' : Nat → Option Nat) (F' : Nat → va_E) (H' : Heap) (locs' : List Loc), zl_I w s P' F' H' locs' → P' xa = some 12 → P' ma = some 13 → zl_R xa ma P' (zp_n F') → W p l e room_1 s m args below meth c H' locs' (cu + 16) (su + 940) Q (F0 m 1372 ls [])) : W p l e room_1 s m args below meth c H locs cu su Q (F0 m 707 ls []) := by
  have hW : zh_W w := hC.2.2.2.2.2.2.2.2.1
  have hl0 := lv_at hl 0 rfl
  have hl1 := lv_at hl 1 rfl
  have hl2 := lv_at hl 2 rfl
  have hl3 := lv_at hl 3 rfl
  refine zl_this (pc := 707) (k := 1) (i := 1) (a := xa) hC (zd_law10 (707, .aload_n 1, 1, 0, []) (List.mem_of_getElem? (i := 11) rfl)) rfl hl1 ?_
  refine zl_arg (pc := 708) (j := j) (k := 1) (n := 1) hC hI (by omega) (by decide) hl0 hl3 (zd_law10 (708, .aload_n 0, 1, 0, []) (List.mem_of_getElem? (i := 12) rfl)) (zd_law10 (709, .iload_n 3, 1, 0, []) (List.mem_of_getElem? (i := 13) rfl)) (zd_law10 (710, .iconst 1, 1, 0, []) (List.mem_of_getElem? (i := 14) rfl)) (zd_law10 (711, .iadd, 1, 0, []) (List.mem_of_getElem? (i := 15) rfl)) (zd_law10 (712, .iaload, 1, 0, []) (List.mem_of_getElem? (i := 16) rfl)) ?_
  refine zl_callp (pc := 713) (how := 0) (idx := 86) (mi := 120) (mcm := 16) (msm := 940) (pl := [1059, 115, 1060, 1061]) hC (zp_plain (zq_217 hW)) (by decide +kernel) rfl (by decide +kernel) (zd_law10 (713, .invokevirtual 86, 3, 0, []) (List.mem_of_getElem? (i := 17) rfl)) (zd_law10 (716, .pop, 1, 0, []) (List.mem_of_getElem? (i := 18) rfl)) hI [(xa : Int), zl_y xs j 1] rfl ⟨zp_o2 h12, zl_yo, trivial⟩ trivial hl.1 hf (fun al1 hal1 rn1 P1 F1 H1 locs1 hx1 hI1 hfr1 hok1 hcs1 hB1 => ?_)
  have hR := zl_Rfr hR h12 h13 hx1 hfr1 (by decide +kernel)
  have h12 := hx1 _ _ h12
  have h13 := hx1 _ _ h13
  refine zl_this (pc := 717) (k := 2) (i := 2) (a := ma) hC (zd_law10 (717, .aload_n 2, 1, 0, []) (List.mem_of_getElem? (i := 19) rfl)) rfl hl2 ?_
  refine zl_arg (pc := 718) (j := j) (k := 1) (n := 1) hC hI1 (by omega) (by decide) hl0 hl3 (zd_law10 (718, .aload_n 0, 1, 0, []) (List.mem_of_getElem? (i := 20) rfl)) (zd_law10 (719, .iload_n 3, 1, 0, []) (List.mem_of_getElem? (i := 21) rfl)) (zd_law10 (720, .iconst 1, 1, 0, []) (List.mem_of_getElem? (i := 22) rfl)) (zd_law10 (721, .iadd, 1, 0, []) (List.mem_of_getElem? (i := 23) rfl)) (zd_law10 (722, .iaload, 1, 0, []) (List.mem_of_getElem? (i := 24) rfl)) ?_
  refine zl_callp (pc := 723) (how := 0) (idx := 89) (mi := 275) (mcm := 0) (msm := 0) (pl := [1951, 128, 1952, 1953]) hC (zp_plain (zq_1121 hW)) (by decide +kernel) rfl (by decide +kernel) (zd_law10 (723, .invokevirtual 89, 3, 0, []) (List.mem_of_getElem? (i := 25) rfl)) (zd_law10 (726, .pop, 1, 0, []) (List.mem_of_getElem? (i := 26) rfl)) hI1 [(ma : Int), zl_y xs j 1] rfl ⟨zp_o2 h13, zl_yo, trivial⟩ trivial hl.1 hf (fun al2 hal2 rn2 P2 F2 H2 locs2 hx2 hI2 hfr2 hok2 hcs2 hB2 => ?_)
  have hR := zl_Rfr hR h12 h13 hx2 hfr2 (by decide +kernel)
  have h12 := hx2 _ _ h12
  have h13 := hx2 _ _ h13
  refine lv_goto (pc := 727) (tgt := 1372) hC.1 hC.2.1 (zd_law10 (727, .goto 645, 3, 0, []) (List.mem_of_getElem? (i := 27) rfl)) (by decide) ?_
  exact kk P2 F2 H2 locs2 hI2 h12 h13 hR
/-- case 18 -/
theorem zl_c18 {p : Program} {l : Launch} {e : Env} {s : State} {m : MethodId} {args : Array Value} {below : List Frame} {meth : Method} {c : Code} {Q : State → Prop} {w : zk_W} {b L : Nat} {xs : Nat → Int32} (hC : zl_C p s m args c w b L xs) {xa ma j : Nat} (hj : 6 * j + 5 < L) {P : Nat → Option Nat} {F : Nat → va_E} {H : Heap} {locs : List Loc} {cu su : Nat} {ls : Array Slot} (hl : lv_has ls 4 [(0, .ref b), (1, .ref xa), (2, .ref ma), (3, .int (nI (6 * j)))]) (hI : zl_I w s P F H locs) (h12 : P xa = some 12) (h13 : P ma = some 13) (hR : zl_R xa ma P (zp_n F)) (hf : cu + 16 ≤ 600000 ∧ su + 940 ≤ 7302250) (kk : ∀ (P' : Nat → Option Nat) (F' : Nat → va_E) (H' : Heap) (locs' : List Loc), zl_I w s P' F' H' locs' → P' xa = some 12 → P' ma = some 13 → zl_R xa ma P' (zp_n F') → W p l e room_1 s m args below meth c H' locs' (cu + 16) (su + 940) Q (F0 m 1372 ls [])) : W p l e room_1 s m args below meth c H locs cu su Q (F0 m 730 ls []) := by
  have hW : zh_W w := hC.2.2.2.2.2.2.2.2.1
  have hl0 := lv_at hl 0 rfl
  have hl1 := lv_at hl 1 rfl
  have hl2 := lv_at hl 2 rfl
  have hl3 := lv_at hl 3 rfl
  refine zl_this (pc := 730) (k := 1) (i := 1) (a := xa) hC (zd_law10 (730, .aload_n 1, 1, 0, []) (List.mem_of_getElem? (i := 28) rfl)) rfl hl1 ?_
  refine zl_arg (pc := 731) (j := j) (k := 1) (n := 1) hC hI (by omega) (by decide) hl0 hl3 (zd_law10 (731, .aload_n 0, 1, 0, []) (List.mem_of_getElem? (i := 29) rfl)) (zd_law10 (732, .iload_n 3, 1, 0, []) (List.mem_of_getElem? (i := 30) rfl)) (zd_law10 (733, .iconst 1, 1, 0, []) (List.mem_of_getElem? (i := 31) rfl)) (zd_law10 (734, .iadd, 1, 0, []) (List.mem_of_getElem? (i := 32) rfl)) (zd_law10 (735, .iaload, 1, 0, []) (List.mem_of_getElem? (i := 33) rfl)) ?_
  refine zl_arg (pc := 736) (j := j) (k := 2) (n := 2) hC hI (by omega) (by decide) hl0 hl3 (zd_law10 (736, .aload_n 0, 1, 0, []) (List.mem_of_getElem? (i := 34) rfl)) (zd_law10 (737, .iload_n 3, 1, 0, []) (List.mem_of_getElem? (i := 35) rfl)) (zd_law10 (738, .iconst 2, 1, 0, []) (List.mem_of_getElem? (i := 36) rfl)) (zd_law10 (739, .iadd, 1, 0, []) (List.mem_of_getElem? (i := 37) rfl)) (zd_law10 (740, .iaload, 1, 0, []) (List.mem_of_getElem? (i := 38) rfl)) ?_
  refine zl_callp (pc := 741) (how := 0) (idx := 90) (mi := 122) (mcm := 16) (msm := 940) (pl := [1067, 115, 1068, 1069]) hC (zp_plain (zq_218 hW)) (by decide +kernel) rfl (by decide +kernel) (zd_law10 (741, .invokevirtual 90, 3, 0, []) (List.mem_of_getElem? (i := 39) rfl)) (zd_law11 (744, .pop, 1, 0, []) (List.mem_of_getElem? (i := 0) rfl)) hI [(xa : Int), zl_y xs j 1, zl_y xs j 2] rfl ⟨zp_o2 h12, zl_yo, zl_yo, trivial⟩ trivial hl.1 hf (fun al1 hal1 rn1 P1 F1 H1 locs1 hx1 hI1 hfr1 hok1 hcs1 hB1 => ?_)
  have hR := zl_Rfr hR h12 h13 hx1 hfr1 (by decide +kernel)
  have h12 := hx1 _ _ h12
  have h13 := hx1 _ _ h13
  refine zl_this (pc := 745) (k := 2) (i := 2) (a := ma) hC (zd_law11 (745, .aload_n 2, 1, 0, []) (List.mem_of_getElem? (i := 1) rfl)) rfl hl2 ?_
  refine zl_arg (pc := 746) (j := j) (k := 1) (n := 1) hC hI1 (by omega) (by decide) hl0 hl3 (zd_law11 (746, .aload_n 0, 1, 0, []) (List.mem_of_getElem? (i := 2) rfl)) (zd_law11 (747, .iload_n 3, 1, 0, []) (List.mem_of_getElem? (i := 3) rfl)) (zd_law11 (748, .iconst 1, 1, 0, []) (List.mem_of_getElem? (i := 4) rfl)) (zd_law11 (749, .iadd, 1, 0, []) (List.mem_of_getElem? (i := 5) rfl)) (zd_law11 (750, .iaload, 1, 0, []) (List.mem_of_getElem? (i := 6) rfl)) ?_
  refine zl_arg (pc := 751) (j := j) (k := 2) (n := 2) hC hI1 (by omega) (by decide) hl0 hl3 (zd_law11 (751, .aload_n 0, 1, 0, []) (List.mem_of_getElem? (i := 7) rfl)) (zd_law11 (752, .iload_n 3, 1, 0, []) (List.mem_of_getElem? (i := 8) rfl)) (zd_law11 (753, .iconst 2, 1, 0, []) (List.mem_of_getElem? (i := 9) rfl)) (zd_law11 (754, .iadd, 1, 0, []) (List.mem_of_getElem? (i := 10) rfl)) (zd_law11 (755, .iaload, 1, 0, []) (List.mem_of_getElem? (i := 11) rfl)) ?_
  refine zl_callp (pc := 756) (how := 0) (idx := 93) (mi := 279) (mcm := 0) (msm := 0) (pl := [1967, 128, 1968, 1969]) hC (zp_plain (zq_1124 hW)) (by decide +kernel) rfl (by decide +kernel) (zd_law11 (756, .invokevirtual 93, 3, 0, []) (List.mem_of_getElem? (i := 12) rfl)) (zd_law11 (759, .pop, 1, 0, []) (List.mem_of_getElem? (i := 13) rfl)) hI1 [(ma : Int), zl_y xs j 1, zl_y xs j 2] rfl ⟨zp_o2 h13, zl_yo, zl_yo, trivial⟩ trivial hl.1 hf (fun al2 hal2 rn2 P2 F2 H2 locs2 hx2 hI2 hfr2 hok2 hcs2 hB2 => ?_)
  have hR := zl_Rfr hR h12 h13 hx2 hfr2 (by decide +kernel)
  have h12 := hx2 _ _ h12
  have h13 := hx2 _ _ h13
  refine lv_goto (pc := 760) (tgt := 1372) hC.1 hC.2.1 (zd_law11 (760, .goto 612, 3, 0, []) (List.mem_of_getElem? (i := 14) rfl)) (by decide) ?_
  exact kk P2 F2 H2 locs2 hI2 h12 h13 hR
/-- case 19 -/
theorem zl_c19 {p : Program} {l : Launch} {e : Env} {s : State} {m : MethodId} {args : Array Value} {below : List Frame} {meth : Method} {c : Code} {Q : State → Prop} {w : zk_W} {b L : Nat} {xs : Nat → Int32} (hC : zl_C p s m args c w b L xs) {xa ma j : Nat} (hj : 6 * j + 5 < L) {P : Nat → Option Nat} {F : Nat → va_E} {H : Heap} {locs : List Loc} {cu su : Nat} {ls : Array Slot} (hl : lv_has ls 4 [(0, .ref b), (1, .ref xa), (2, .ref ma), (3, .int (nI (6 * j)))]) (hI : zl_I w s P F H locs) (h12 : P xa = some 12) (h13 : P ma = some 13) (hR : zl_R xa ma P (zp_n F)) (hf : cu + 16 ≤ 600000 ∧ su + 940 ≤ 7302250) (kk : ∀ (P' : Nat → Option Nat) (F' : Nat → va_E) (H' : Heap) (locs' : List Loc), zl_I w s P' F' H' locs' → P' xa = some 12 → P' ma = some 13 → zl_R xa ma P' (zp_n F') → W p l e room_1 s m args below meth c H' locs' (cu + 16) (su + 940) Q (F0 m 1372 ls [])) : W p l e room_1 s m args below meth c H locs cu su Q (F0 m 763 ls []) := by
  have hW : zh_W w := hC.2.2.2.2.2.2.2.2.1
  have hl0 := lv_at hl 0 rfl
  have hl1 := lv_at hl 1 rfl
  have hl2 := lv_at hl 2 rfl
  have hl3 := lv_at hl 3 rfl
  refine zl_this (pc := 763) (k := 1) (i := 1) (a := xa) hC (zd_law11 (763, .aload_n 1, 1, 0, []) (List.mem_of_getElem? (i := 15) rfl)) rfl hl1 ?_
  refine zl_callp (pc := 764) (how := 0) (idx := 94) (mi := 123) (mcm := 16) (msm := 940) (pl := [1071, 115, 1072, 1073]) hC (zp_plain (zq_219 hW)) (by decide +kernel) rfl (by decide +kernel) (zd_law11 (764, .invokevirtual 94, 3, 0, []) (List.mem_of_getElem? (i := 16) rfl)) (zd_law11 (767, .pop, 1, 0, []) (List.mem_of_getElem? (i := 17) rfl)) hI [(xa : Int)] rfl ⟨zp_o2 h12, trivial⟩ trivial hl.1 hf (fun al1 hal1 rn1 P1 F1 H1 locs1 hx1 hI1 hfr1 hok1 hcs1 hB1 => ?_)
  have hR := zl_Rfr hR h12 h13 hx1 hfr1 (by decide +kernel)
  have h12 := hx1 _ _ h12
  have h13 := hx1 _ _ h13
  refine zl_this (pc := 768) (k := 2) (i := 2) (a := ma) hC (zd_law11 (768, .aload_n 2, 1, 0, []) (List.mem_of_getElem? (i := 18) rfl)) rfl hl2 ?_
  refine zl_callp (pc := 769) (how := 0) (idx := 97) (mi := 282) (mcm := 0) (msm := 0) (pl := [1979, 128, 1980, 1981]) hC (zp_plain (zq_1127 hW)) (by decide +kernel) rfl (by decide +kernel) (zd_law11 (769, .invokevirtual 97, 3, 0, []) (List.mem_of_getElem? (i := 19) rfl)) (zd_law11 (772, .pop, 1, 0, []) (List.mem_of_getElem? (i := 20) rfl)) hI1 [(ma : Int)] rfl ⟨zp_o2 h13, trivial⟩ trivial hl.1 hf (fun al2 hal2 rn2 P2 F2 H2 locs2 hx2 hI2 hfr2 hok2 hcs2 hB2 => ?_)
  have hR := zl_Rfr hR h12 h13 hx2 hfr2 (by decide +kernel)
  have h12 := hx2 _ _ h12
  have h13 := hx2 _ _ h13
  refine lv_goto (pc := 773) (tgt := 1372) hC.1 hC.2.1 (zd_law11 (773, .goto 599, 3, 0, []) (List.mem_of_getElem? (i := 21) rfl)) (by decide) ?_
  exact kk P2 F2 H2 locs2 hI2 h12 h13 hR
/-- case 20 -/
theorem zl_c20 {p : Program} {l : Launch} {e : Env} {s : State} {m : MethodId} {args : Array Value} {below : List Frame} {meth : Method} {c : Code} {Q : State → Prop} {w : zk_W} {b L : Nat} {xs : Nat → Int32} (hC : zl_C p s m args c w b L xs) {xa ma j : Nat} (hj : 6 * j + 5 < L) {P : Nat → Option Nat} {F : Nat → va_E} {H : Heap} {locs : List Loc} {cu su : Nat} {ls : Array Slot} (hl : lv_has ls 4 [(0, .ref b), (1, .ref xa), (2, .ref ma), (3, .int (nI (6 * j)))]) (hI : zl_I w s P F H locs) (h12 : P xa = some 12) (h13 : P ma = some 13) (hR : zl_R xa ma P (zp_n F)) (hf : cu + 16 ≤ 600000 ∧ su + 940 ≤ 7302250) (kk : ∀ (P' : Nat → Option Nat) (F' : Nat → va_E) (H' : Heap) (locs' : List Loc), zl_I w s P' F' H' locs' → P' xa = some 12 → P' ma = some 13 → zl_R xa ma P' (zp_n F') → W p l e room_1 s m args below meth c H' locs' (cu + 16) (su + 940) Q (F0 m 1372 ls [])) : W p l e room_1 s m args below meth c H locs cu su Q (F0 m 776 ls []) := by
  have hW : zh_W w := hC.2.2.2.2.2.2.2.2.1
  have hl0 := lv_at hl 0 rfl
  have hl1 := lv_at hl 1 rfl
  have hl2 := lv_at hl 2 rfl
  have hl3 := lv_at hl 3 rfl
  refine zl_this (pc := 776) (k := 1) (i := 1) (a := xa) hC (zd_law11 (776, .aload_n 1, 1, 0, []) (List.mem_of_getElem? (i := 22) rfl)) rfl hl1 ?_
  refine zl_arg (pc := 777) (j := j) (k := 1) (n := 1) hC hI (by omega) (by decide) hl0 hl3 (zd_law11 (777, .aload_n 0, 1, 0, []) (List.mem_of_getElem? (i := 23) rfl)) (zd_law11 (778, .iload_n 3, 1, 0, []) (List.mem_of_getElem? (i := 24) rfl)) (zd_law11 (779, .iconst 1, 1, 0, []) (List.mem_of_getElem? (i := 25) rfl)) (zd_law11 (780, .iadd, 1, 0, []) (List.mem_of_getElem? (i := 26) rfl)) (zd_law11 (781, .iaload, 1, 0, []) (List.mem_of_getElem? (i := 27) rfl)) ?_
  refine zl_callp (pc := 782) (how := 0) (idx := 98) (mi := 124) (mcm := 16) (msm := 940) (pl := [1075, 115, 1076, 1077]) hC (zp_plain (zq_220 hW)) (by decide +kernel) rfl (by decide +kernel) (zd_law11 (782, .invokevirtual 98, 3, 0, []) (List.mem_of_getElem? (i := 28) rfl)) (zd_law11 (785, .pop, 1, 0, []) (List.mem_of_getElem? (i := 29) rfl)) hI [(xa : Int), zl_y xs j 1] rfl ⟨zp_o2 h12, zl_yo, trivial⟩ trivial hl.1 hf (fun al1 hal1 rn1 P1 F1 H1 locs1 hx1 hI1 hfr1 hok1 hcs1 hB1 => ?_)
  have hR := zl_Rfr hR h12 h13 hx1 hfr1 (by decide +kernel)
  have h12 := hx1 _ _ h12
  have h13 := hx1 _ _ h13
  refine zl_this (pc := 786) (k := 2) (i := 2) (a := ma) hC (zd_law11 (786, .aload_n 2, 1, 0, []) (List.mem_of_getElem? (i := 30) rfl)) rfl hl2 ?_
  refine zl_arg (pc := 787) (j := j) (k := 1) (n := 1) hC hI1 (by omega) (by decide) hl0 hl3 (zd_law11 (787, .aload_n 0, 1, 0, []) (List.mem_of_getElem? (i := 31) rfl)) (zd_law11 (788, .iload_n 3, 1, 0, []) (List.mem_of_getElem? (i := 32) rfl)) (zd_law11 (789, .iconst 1, 1, 0, []) (List.mem_of_getElem? (i := 33) rfl)) (zd_law11 (790, .iadd, 1, 0, []) (List.mem_of_getElem? (i := 34) rfl)) (zd_law11 (791, .iaload, 1, 0, []) (List.mem_of_getElem? (i := 35) rfl)) ?_
  refine zl_callp (pc := 792) (how := 0) (idx := 101) (mi := 285) (mcm := 0) (msm := 0) (pl := [1991, 128, 1992, 1993]) hC (zp_plain (zq_1130 hW)) (by decide +kernel) rfl (by decide +kernel) (zd_law11 (792, .invokevirtual 101, 3, 0, []) (List.mem_of_getElem? (i := 36) rfl)) (zd_law11 (795, .pop, 1, 0, []) (List.mem_of_getElem? (i := 37) rfl)) hI1 [(ma : Int), zl_y xs j 1] rfl ⟨zp_o2 h13, zl_yo, trivial⟩ trivial hl.1 hf (fun al2 hal2 rn2 P2 F2 H2 locs2 hx2 hI2 hfr2 hok2 hcs2 hB2 => ?_)
  have hR := zl_Rfr hR h12 h13 hx2 hfr2 (by decide +kernel)
  have h12 := hx2 _ _ h12
  have h13 := hx2 _ _ h13
  refine lv_goto (pc := 796) (tgt := 1372) hC.1 hC.2.1 (zd_law11 (796, .goto 576, 3, 0, []) (List.mem_of_getElem? (i := 38) rfl)) (by decide) ?_
  exact kk P2 F2 H2 locs2 hI2 h12 h13 hR
/-- case 21 -/
theorem zl_c21 {p : Program} {l : Launch} {e : Env} {s : State} {m : MethodId} {args : Array Value} {below : List Frame} {meth : Method} {c : Code} {Q : State → Prop} {w : zk_W} {b L : Nat} {xs : Nat → Int32} (hC : zl_C p s m args c w b L xs) {xa ma j : Nat} (hj : 6 * j + 5 < L) {P : Nat → Option Nat} {F : Nat → va_E} {H : Heap} {locs : List Loc} {cu su : Nat} {ls : Array Slot} (hl : lv_has ls 4 [(0, .ref b), (1, .ref xa), (2, .ref ma), (3, .int (nI (6 * j)))]) (hI : zl_I w s P F H locs) (h12 : P xa = some 12) (h13 : P ma = some 13) (hR : zl_R xa ma P (zp_n F)) (hf : cu + 16 ≤ 600000 ∧ su + 940 ≤ 7302250) (kk : ∀ (P' : Nat → Option Nat) (F' : Nat → va_E) (H' : Heap) (locs' : List Loc), zl_I w s P' F' H' locs' → P' xa = some 12 → P' ma = some 13 → zl_R xa ma P' (zp_n F') → W p l e room_1 s m args below meth c H' locs' (cu + 16) (su + 940) Q (F0 m 1372 ls [])) : W p l e room_1 s m args below meth c H locs cu su Q (F0 m 799 ls []) := by
  have hW : zh_W w := hC.2.2.2.2.2.2.2.2.1
  have hl0 := lv_at hl 0 rfl
  have hl1 := lv_at hl 1 rfl
  have hl2 := lv_at hl 2 rfl
  have hl3 := lv_at hl 3 rfl
  refine zl_this (pc := 799) (k := 1) (i := 1) (a := xa) hC (zd_law11 (799, .aload_n 1, 1, 0, []) (List.mem_of_getElem? (i := 39) rfl)) rfl hl1 ?_
  refine zl_callp (pc := 800) (how := 0) (idx := 102) (mi := 125) (mcm := 16) (msm := 940) (pl := [1079, 115, 1080, 1081]) hC (zp_plain (zq_238 hW)) (by decide +kernel) rfl (by decide +kernel) (zd_law12 (800, .invokevirtual 102, 3, 0, []) (List.mem_of_getElem? (i := 0) rfl)) (zd_law12 (803, .pop, 1, 0, []) (List.mem_of_getElem? (i := 1) rfl)) hI [(xa : Int)] rfl ⟨zp_o2 h12, trivial⟩ trivial hl.1 hf (fun al1 hal1 rn1 P1 F1 H1 locs1 hx1 hI1 hfr1 hok1 hcs1 hB1 => ?_)
  have hR := zl_Rfr hR h12 h13 hx1 hfr1 (by decide +kernel)
  have h12 := hx1 _ _ h12
  have h13 := hx1 _ _ h13
  refine zl_this (pc := 804) (k := 2) (i := 2) (a := ma) hC (zd_law12 (804, .aload_n 2, 1, 0, []) (List.mem_of_getElem? (i := 2) rfl)) rfl hl2 ?_
  refine zl_callp (pc := 805) (how := 0) (idx := 105) (mi := 182) (mcm := 0) (msm := 0) (pl := [1554, 128, 1555, 1556]) hC (zp_plain (zq_1003 hW)) (by decide +kernel) rfl (by decide +kernel) (zd_law12 (805, .invokevirtual 105, 3, 0, []) (List.mem_of_getElem? (i := 3) rfl)) (zd_law12 (808, .pop, 1, 0, []) (List.mem_of_getElem? (i := 4) rfl)) hI1 [(ma : Int)] rfl ⟨zp_o2 h13, trivial⟩ trivial hl.1 hf (fun al2 hal2 rn2 P2 F2 H2 locs2 hx2 hI2 hfr2 hok2 hcs2 hB2 => ?_)
  have hR := zl_Rfr hR h12 h13 hx2 hfr2 (by decide +kernel)
  have h12 := hx2 _ _ h12
  have h13 := hx2 _ _ h13
  refine lv_goto (pc := 809) (tgt := 1372) hC.1 hC.2.1 (zd_law12 (809, .goto 563, 3, 0, []) (List.mem_of_getElem? (i := 5) rfl)) (by decide) ?_
  exact kk P2 F2 H2 locs2 hI2 h12 h13 hR
/-- case 22 -/
theorem zl_c22 {p : Program} {l : Launch} {e : Env} {s : State} {m : MethodId} {args : Array Value} {below : List Frame} {meth : Method} {c : Code} {Q : State → Prop} {w : zk_W} {b L : Nat} {xs : Nat → Int32} (hC : zl_C p s m args c w b L xs) {xa ma j : Nat} (hj : 6 * j + 5 < L) {P : Nat → Option Nat} {F : Nat → va_E} {H : Heap} {locs : List Loc} {cu su : Nat} {ls : Array Slot} (hl : lv_has ls 4 [(0, .ref b), (1, .ref xa), (2, .ref ma), (3, .int (nI (6 * j)))]) (hI : zl_I w s P F H locs) (h12 : P xa = some 12) (h13 : P ma = some 13) (hR : zl_R xa ma P (zp_n F)) (hf : cu + 16 ≤ 600000 ∧ su + 940 ≤ 7302250) (kk : ∀ (P' : Nat → Option Nat) (F' : Nat → va_E) (H' : Heap) (locs' : List Loc), zl_I w s P' F' H' locs' → P' xa = some 12 → P' ma = some 13 → zl_R xa ma P' (zp_n F') → W p l e room_1 s m args below meth c H' locs' (cu + 16) (su + 940) Q (F0 m 1372 ls [])) : W p l e room_1 s m args below meth c H locs cu su Q (F0 m 812 ls []) := by
  have hW : zh_W w := hC.2.2.2.2.2.2.2.2.1
  have hl0 := lv_at hl 0 rfl
  have hl1 := lv_at hl 1 rfl
  have hl2 := lv_at hl 2 rfl
  have hl3 := lv_at hl 3 rfl
  refine zl_this (pc := 812) (k := 1) (i := 1) (a := xa) hC (zd_law12 (812, .aload_n 1, 1, 0, []) (List.mem_of_getElem? (i := 6) rfl)) rfl hl1 ?_
  refine zl_arg (pc := 813) (j := j) (k := 1) (n := 1) hC hI (by omega) (by decide) hl0 hl3 (zd_law12 (813, .aload_n 0, 1, 0, []) (List.mem_of_getElem? (i := 7) rfl)) (zd_law12 (814, .iload_n 3, 1, 0, []) (List.mem_of_getElem? (i := 8) rfl)) (zd_law12 (815, .iconst 1, 1, 0, []) (List.mem_of_getElem? (i := 9) rfl)) (zd_law12 (816, .iadd, 1, 0, []) (List.mem_of_getElem? (i := 10) rfl)) (zd_law12 (817, .iaload, 1, 0, []) (List.mem_of_getElem? (i := 11) rfl)) ?_
  refine zl_arg (pc := 818) (j := j) (k := 2) (n := 2) hC hI (by omega) (by decide) hl0 hl3 (zd_law12 (818, .aload_n 0, 1, 0, []) (List.mem_of_getElem? (i := 12) rfl)) (zd_law12 (819, .iload_n 3, 1, 0, []) (List.mem_of_getElem? (i := 13) rfl)) (zd_law12 (820, .iconst 2, 1, 0, []) (List.mem_of_getElem? (i := 14) rfl)) (zd_law12 (821, .iadd, 1, 0, []) (List.mem_of_getElem? (i := 15) rfl)) (zd_law12 (822, .iaload, 1, 0, []) (List.mem_of_getElem? (i := 16) rfl)) ?_
  refine zl_arg (pc := 823) (j := j) (k := 3) (n := 3) hC hI (by omega) (by decide) hl0 hl3 (zd_law12 (823, .aload_n 0, 1, 0, []) (List.mem_of_getElem? (i := 17) rfl)) (zd_law12 (824, .iload_n 3, 1, 0, []) (List.mem_of_getElem? (i := 18) rfl)) (zd_law12 (825, .iconst 3, 1, 0, []) (List.mem_of_getElem? (i := 19) rfl)) (zd_law12 (826, .iadd, 1, 0, []) (List.mem_of_getElem? (i := 20) rfl)) (zd_law12 (827, .iaload, 1, 0, []) (List.mem_of_getElem? (i := 21) rfl)) ?_
  refine zl_callp (pc := 828) (how := 0) (idx := 106) (mi := 128) (mcm := 16) (msm := 940) (pl := [1091, 115, 1092, 1093]) hC (zp_plain (zq_240 hW)) (by decide +kernel) rfl (by decide +kernel) (zd_law12 (828, .invokevirtual 106, 3, 0, []) (List.mem_of_getElem? (i := 22) rfl)) (zd_law12 (831, .pop, 1, 0, []) (List.mem_of_getElem? (i := 23) rfl)) hI [(xa : Int), zl_y xs j 1, zl_y xs j 2, zl_y xs j 3] rfl ⟨zp_o2 h12, zl_yo, zl_yo, zl_yo, trivial⟩ trivial hl.1 hf (fun al1 hal1 rn1 P1 F1 H1 locs1 hx1 hI1 hfr1 hok1 hcs1 hB1 => ?_)
  have hR := zl_Rfr hR h12 h13 hx1 hfr1 (by decide +kernel)
  have h12 := hx1 _ _ h12
  have h13 := hx1 _ _ h13
  refine zl_this (pc := 832) (k := 2) (i := 2) (a := ma) hC (zd_law12 (832, .aload_n 2, 1, 0, []) (List.mem_of_getElem? (i := 24) rfl)) rfl hl2 ?_
  refine zl_arg (pc := 833) (j := j) (k := 1) (n := 1) hC hI1 (by omega) (by decide) hl0 hl3 (zd_law12 (833, .aload_n 0, 1, 0, []) (List.mem_of_getElem? (i := 25) rfl)) (zd_law12 (834, .iload_n 3, 1, 0, []) (List.mem_of_getElem? (i := 26) rfl)) (zd_law12 (835, .iconst 1, 1, 0, []) (List.mem_of_getElem? (i := 27) rfl)) (zd_law12 (836, .iadd, 1, 0, []) (List.mem_of_getElem? (i := 28) rfl)) (zd_law12 (837, .iaload, 1, 0, []) (List.mem_of_getElem? (i := 29) rfl)) ?_
  refine zl_arg (pc := 838) (j := j) (k := 2) (n := 2) hC hI1 (by omega) (by decide) hl0 hl3 (zd_law12 (838, .aload_n 0, 1, 0, []) (List.mem_of_getElem? (i := 30) rfl)) (zd_law12 (839, .iload_n 3, 1, 0, []) (List.mem_of_getElem? (i := 31) rfl)) (zd_law12 (840, .iconst 2, 1, 0, []) (List.mem_of_getElem? (i := 32) rfl)) (zd_law12 (841, .iadd, 1, 0, []) (List.mem_of_getElem? (i := 33) rfl)) (zd_law12 (842, .iaload, 1, 0, []) (List.mem_of_getElem? (i := 34) rfl)) ?_
  refine zl_arg (pc := 843) (j := j) (k := 3) (n := 3) hC hI1 (by omega) (by decide) hl0 hl3 (zd_law12 (843, .aload_n 0, 1, 0, []) (List.mem_of_getElem? (i := 35) rfl)) (zd_law12 (844, .iload_n 3, 1, 0, []) (List.mem_of_getElem? (i := 36) rfl)) (zd_law12 (845, .iconst 3, 1, 0, []) (List.mem_of_getElem? (i := 37) rfl)) (zd_law12 (846, .iadd, 1, 0, []) (List.mem_of_getElem? (i := 38) rfl)) (zd_law12 (847, .iaload, 1, 0, []) (List.mem_of_getElem? (i := 39) rfl)) ?_
  refine zl_callp (pc := 848) (how := 0) (idx := 109) (mi := 247) (mcm := 0) (msm := 0) (pl := [1835, 128, 1836, 1837]) hC (zp_plain (zq_1083 hW)) (by decide +kernel) rfl (by decide +kernel) (zd_law13 (848, .invokevirtual 109, 3, 0, []) (List.mem_of_getElem? (i := 0) rfl)) (zd_law13 (851, .pop, 1, 0, []) (List.mem_of_getElem? (i := 1) rfl)) hI1 [(ma : Int), zl_y xs j 1, zl_y xs j 2, zl_y xs j 3] rfl ⟨zp_o2 h13, zl_yo, zl_yo, zl_yo, trivial⟩ trivial hl.1 hf (fun al2 hal2 rn2 P2 F2 H2 locs2 hx2 hI2 hfr2 hok2 hcs2 hB2 => ?_)
  have hR := zl_Rfr hR h12 h13 hx2 hfr2 (by decide +kernel)
  have h12 := hx2 _ _ h12
  have h13 := hx2 _ _ h13
  refine lv_goto (pc := 852) (tgt := 1372) hC.1 hC.2.1 (zd_law13 (852, .goto 520, 3, 0, []) (List.mem_of_getElem? (i := 2) rfl)) (by decide) ?_
  exact kk P2 F2 H2 locs2 hI2 h12 h13 hR
/-- case 23 -/
theorem zl_c23 {p : Program} {l : Launch} {e : Env} {s : State} {m : MethodId} {args : Array Value} {below : List Frame} {meth : Method} {c : Code} {Q : State → Prop} {w : zk_W} {b L : Nat} {xs : Nat → Int32} (hC : zl_C p s m args c w b L xs) {xa ma j : Nat} (hj : 6 * j + 5 < L) {P : Nat → Option Nat} {F : Nat → va_E} {H : Heap} {locs : List Loc} {cu su : Nat} {ls : Array Slot} (hl : lv_has ls 4 [(0, .ref b), (1, .ref xa), (2, .ref ma), (3, .int (nI (6 * j)))]) (hI : zl_I w s P F H locs) (h12 : P xa = some 12) (h13 : P ma = some 13) (hR : zl_R xa ma P (zp_n F)) (hf : cu + 16 ≤ 600000 ∧ su + 940 ≤ 7302250) (kk : ∀ (P' : Nat → Option Nat) (F' : Nat → va_E) (H' : Heap) (locs' : List Loc), zl_I w s P' F' H' locs' → P' xa = some 12 → P' ma = some 13 → zl_R xa ma P' (zp_n F') → W p l e room_1 s m args below meth c H' locs' (cu + 16) (su + 940) Q (F0 m 1372 ls [])) : W p l e room_1 s m args below meth c H locs cu su Q (F0 m 855 ls []) := by
  have hW : zh_W w := hC.2.2.2.2.2.2.2.2.1
  have hl0 := lv_at hl 0 rfl
  have hl1 := lv_at hl 1 rfl
  have hl2 := lv_at hl 2 rfl
  have hl3 := lv_at hl 3 rfl
  refine zl_this (pc := 855) (k := 1) (i := 1) (a := xa) hC (zd_law13 (855, .aload_n 1, 1, 0, []) (List.mem_of_getElem? (i := 3) rfl)) rfl hl1 ?_
  refine zl_arg (pc := 856) (j := j) (k := 1) (n := 1) hC hI (by omega) (by decide) hl0 hl3 (zd_law13 (856, .aload_n 0, 1, 0, []) (List.mem_of_getElem? (i := 4) rfl)) (zd_law13 (857, .iload_n 3, 1, 0, []) (List.mem_of_getElem? (i := 5) rfl)) (zd_law13 (858, .iconst 1, 1, 0, []) (List.mem_of_getElem? (i := 6) rfl)) (zd_law13 (859, .iadd, 1, 0, []) (List.mem_of_getElem? (i := 7) rfl)) (zd_law13 (860, .iaload, 1, 0, []) (List.mem_of_getElem? (i := 8) rfl)) ?_
  refine zl_arg (pc := 861) (j := j) (k := 2) (n := 2) hC hI (by omega) (by decide) hl0 hl3 (zd_law13 (861, .aload_n 0, 1, 0, []) (List.mem_of_getElem? (i := 9) rfl)) (zd_law13 (862, .iload_n 3, 1, 0, []) (List.mem_of_getElem? (i := 10) rfl)) (zd_law13 (863, .iconst 2, 1, 0, []) (List.mem_of_getElem? (i := 11) rfl)) (zd_law13 (864, .iadd, 1, 0, []) (List.mem_of_getElem? (i := 12) rfl)) (zd_law13 (865, .iaload, 1, 0, []) (List.mem_of_getElem? (i := 13) rfl)) ?_
  refine zl_arg (pc := 866) (j := j) (k := 3) (n := 3) hC hI (by omega) (by decide) hl0 hl3 (zd_law13 (866, .aload_n 0, 1, 0, []) (List.mem_of_getElem? (i := 14) rfl)) (zd_law13 (867, .iload_n 3, 1, 0, []) (List.mem_of_getElem? (i := 15) rfl)) (zd_law13 (868, .iconst 3, 1, 0, []) (List.mem_of_getElem? (i := 16) rfl)) (zd_law13 (869, .iadd, 1, 0, []) (List.mem_of_getElem? (i := 17) rfl)) (zd_law13 (870, .iaload, 1, 0, []) (List.mem_of_getElem? (i := 18) rfl)) ?_
  refine zl_callp (pc := 871) (how := 0) (idx := 110) (mi := 130) (mcm := 16) (msm := 940) (pl := [1102, 115, 1103, 1104]) hC (zp_plain (zq_242 hW)) (by decide +kernel) rfl (by decide +kernel) (zd_law13 (871, .invokevirtual 110, 3, 0, []) (List.mem_of_getElem? (i := 19) rfl)) (zd_law13 (874, .pop, 1, 0, []) (List.mem_of_getElem? (i := 20) rfl)) hI [(xa : Int), zl_y xs j 1, zl_y xs j 2, zl_y xs j 3] rfl ⟨zp_o2 h12, zl_yo, zl_yo, zl_yo, trivial⟩ trivial hl.1 hf (fun al1 hal1 rn1 P1 F1 H1 locs1 hx1 hI1 hfr1 hok1 hcs1 hB1 => ?_)
  have hR := zl_Rfr hR h12 h13 hx1 hfr1 (by decide +kernel)
  have h12 := hx1 _ _ h12
  have h13 := hx1 _ _ h13
  refine zl_this (pc := 875) (k := 2) (i := 2) (a := ma) hC (zd_law13 (875, .aload_n 2, 1, 0, []) (List.mem_of_getElem? (i := 21) rfl)) rfl hl2 ?_
  refine zl_arg (pc := 876) (j := j) (k := 1) (n := 1) hC hI1 (by omega) (by decide) hl0 hl3 (zd_law13 (876, .aload_n 0, 1, 0, []) (List.mem_of_getElem? (i := 22) rfl)) (zd_law13 (877, .iload_n 3, 1, 0, []) (List.mem_of_getElem? (i := 23) rfl)) (zd_law13 (878, .iconst 1, 1, 0, []) (List.mem_of_getElem? (i := 24) rfl)) (zd_law13 (879, .iadd, 1, 0, []) (List.mem_of_getElem? (i := 25) rfl)) (zd_law13 (880, .iaload, 1, 0, []) (List.mem_of_getElem? (i := 26) rfl)) ?_
  refine zl_arg (pc := 881) (j := j) (k := 2) (n := 2) hC hI1 (by omega) (by decide) hl0 hl3 (zd_law13 (881, .aload_n 0, 1, 0, []) (List.mem_of_getElem? (i := 27) rfl)) (zd_law13 (882, .iload_n 3, 1, 0, []) (List.mem_of_getElem? (i := 28) rfl)) (zd_law13 (883, .iconst 2, 1, 0, []) (List.mem_of_getElem? (i := 29) rfl)) (zd_law13 (884, .iadd, 1, 0, []) (List.mem_of_getElem? (i := 30) rfl)) (zd_law13 (885, .iaload, 1, 0, []) (List.mem_of_getElem? (i := 31) rfl)) ?_
  refine zl_arg (pc := 886) (j := j) (k := 3) (n := 3) hC hI1 (by omega) (by decide) hl0 hl3 (zd_law13 (886, .aload_n 0, 1, 0, []) (List.mem_of_getElem? (i := 32) rfl)) (zd_law13 (887, .iload_n 3, 1, 0, []) (List.mem_of_getElem? (i := 33) rfl)) (zd_law13 (888, .iconst 3, 1, 0, []) (List.mem_of_getElem? (i := 34) rfl)) (zd_law13 (889, .iadd, 1, 0, []) (List.mem_of_getElem? (i := 35) rfl)) (zd_law13 (890, .iaload, 1, 0, []) (List.mem_of_getElem? (i := 36) rfl)) ?_
  refine zl_callp (pc := 891) (how := 0) (idx := 113) (mi := 253) (mcm := 0) (msm := 0) (pl := [1861, 128, 1862, 1863]) hC (zp_plain (zq_1084 hW)) (by decide +kernel) rfl (by decide +kernel) (zd_law13 (891, .invokevirtual 113, 3, 0, []) (List.mem_of_getElem? (i := 37) rfl)) (zd_law13 (894, .pop, 1, 0, []) (List.mem_of_getElem? (i := 38) rfl)) hI1 [(ma : Int), zl_y xs j 1, zl_y xs j 2, zl_y xs j 3] rfl ⟨zp_o2 h13, zl_yo, zl_yo, zl_yo, trivial⟩ trivial hl.1 hf (fun al2 hal2 rn2 P2 F2 H2 locs2 hx2 hI2 hfr2 hok2 hcs2 hB2 => ?_)
  have hR := zl_Rfr hR h12 h13 hx2 hfr2 (by decide +kernel)
  have h12 := hx2 _ _ h12
  have h13 := hx2 _ _ h13
  refine lv_goto (pc := 895) (tgt := 1372) hC.1 hC.2.1 (zd_law13 (895, .goto 477, 3, 0, []) (List.mem_of_getElem? (i := 39) rfl)) (by decide) ?_
  exact kk P2 F2 H2 locs2 hI2 h12 h13 hR
/-- case 24 -/
theorem zl_c24 {p : Program} {l : Launch} {e : Env} {s : State} {m : MethodId} {args : Array Value} {below : List Frame} {meth : Method} {c : Code} {Q : State → Prop} {w : zk_W} {b L : Nat} {xs : Nat → Int32} (hC : zl_C p s m args c w b L xs) {xa ma j : Nat} (hj : 6 * j + 5 < L) {P : Nat → Option Nat} {F : Nat → va_E} {H : Heap} {locs : List Loc} {cu su : Nat} {ls : Array Slot} (hl : lv_has ls 4 [(0, .ref b), (1, .ref xa), (2, .ref ma), (3, .int (nI (6 * j)))]) (hI : zl_I w s P F H locs) (h12 : P xa = some 12) (h13 : P ma = some 13) (hR : zl_R xa ma P (zp_n F)) (hf : cu + 16 ≤ 600000 ∧ su + 940 ≤ 7302250) (kk : ∀ (P' : Nat → Option Nat) (F' : Nat → va_E) (H' : Heap) (locs' : List Loc), zl_I w s P' F' H' locs' → P' xa = some 12 → P' ma = some 13 → zl_R xa ma P' (zp_n F') → W p l e room_1 s m args below meth c H' locs' (cu + 16) (su + 940) Q (F0 m 1372 ls [])) : W p l e room_1 s m args below meth c H locs cu su Q (F0 m 898 ls []) := by
  have hW : zh_W w := hC.2.2.2.2.2.2.2.2.1
  have hl0 := lv_at hl 0 rfl
  have hl1 := lv_at hl 1 rfl
  have hl2 := lv_at hl 2 rfl
  have hl3 := lv_at hl 3 rfl
  refine zl_this (pc := 898) (k := 1) (i := 1) (a := xa) hC (zd_law14 (898, .aload_n 1, 1, 0, []) (List.mem_of_getElem? (i := 0) rfl)) rfl hl1 ?_
  refine zl_arg (pc := 899) (j := j) (k := 1) (n := 1) hC hI (by omega) (by decide) hl0 hl3 (zd_law14 (899, .aload_n 0, 1, 0, []) (List.mem_of_getElem? (i := 1) rfl)) (zd_law14 (900, .iload_n 3, 1, 0, []) (List.mem_of_getElem? (i := 2) rfl)) (zd_law14 (901, .iconst 1, 1, 0, []) (List.mem_of_getElem? (i := 3) rfl)) (zd_law14 (902, .iadd, 1, 0, []) (List.mem_of_getElem? (i := 4) rfl)) (zd_law14 (903, .iaload, 1, 0, []) (List.mem_of_getElem? (i := 5) rfl)) ?_
  refine zl_arg (pc := 904) (j := j) (k := 2) (n := 2) hC hI (by omega) (by decide) hl0 hl3 (zd_law14 (904, .aload_n 0, 1, 0, []) (List.mem_of_getElem? (i := 6) rfl)) (zd_law14 (905, .iload_n 3, 1, 0, []) (List.mem_of_getElem? (i := 7) rfl)) (zd_law14 (906, .iconst 2, 1, 0, []) (List.mem_of_getElem? (i := 8) rfl)) (zd_law14 (907, .iadd, 1, 0, []) (List.mem_of_getElem? (i := 9) rfl)) (zd_law14 (908, .iaload, 1, 0, []) (List.mem_of_getElem? (i := 10) rfl)) ?_
  refine zl_callp (pc := 909) (how := 0) (idx := 114) (mi := 132) (mcm := 16) (msm := 940) (pl := [1110, 115, 1111, 1112]) hC (zp_plain (zq_247 hW)) (by decide +kernel) rfl (by decide +kernel) (zd_law14 (909, .invokevirtual 114, 3, 0, []) (List.mem_of_getElem? (i := 11) rfl)) (zd_law14 (912, .pop, 1, 0, []) (List.mem_of_getElem? (i := 12) rfl)) hI [(xa : Int), zl_y xs j 1, zl_y xs j 2] rfl ⟨zp_o2 h12, zl_yo, zl_yo, trivial⟩ trivial hl.1 hf (fun al1 hal1 rn1 P1 F1 H1 locs1 hx1 hI1 hfr1 hok1 hcs1 hB1 => ?_)
  have hR := zl_Rfr hR h12 h13 hx1 hfr1 (by decide +kernel)
  have h12 := hx1 _ _ h12
  have h13 := hx1 _ _ h13
  refine zl_this (pc := 913) (k := 2) (i := 2) (a := ma) hC (zd_law14 (913, .aload_n 2, 1, 0, []) (List.mem_of_getElem? (i := 13) rfl)) rfl hl2 ?_
  refine zl_arg (pc := 914) (j := j) (k := 1) (n := 1) hC hI1 (by omega) (by decide) hl0 hl3 (zd_law14 (914, .aload_n 0, 1, 0, []) (List.mem_of_getElem? (i := 14) rfl)) (zd_law14 (915, .iload_n 3, 1, 0, []) (List.mem_of_getElem? (i := 15) rfl)) (zd_law14 (916, .iconst 1, 1, 0, []) (List.mem_of_getElem? (i := 16) rfl)) (zd_law14 (917, .iadd, 1, 0, []) (List.mem_of_getElem? (i := 17) rfl)) (zd_law14 (918, .iaload, 1, 0, []) (List.mem_of_getElem? (i := 18) rfl)) ?_
  refine zl_arg (pc := 919) (j := j) (k := 2) (n := 2) hC hI1 (by omega) (by decide) hl0 hl3 (zd_law14 (919, .aload_n 0, 1, 0, []) (List.mem_of_getElem? (i := 19) rfl)) (zd_law14 (920, .iload_n 3, 1, 0, []) (List.mem_of_getElem? (i := 20) rfl)) (zd_law14 (921, .iconst 2, 1, 0, []) (List.mem_of_getElem? (i := 21) rfl)) (zd_law14 (922, .iadd, 1, 0, []) (List.mem_of_getElem? (i := 22) rfl)) (zd_law14 (923, .iaload, 1, 0, []) (List.mem_of_getElem? (i := 23) rfl)) ?_
  refine zl_callp (pc := 924) (how := 0) (idx := 117) (mi := 254) (mcm := 0) (msm := 0) (pl := [1865, 128, 1866, 1867]) hC (zp_plain (zq_1090 hW)) (by decide +kernel) rfl (by decide +kernel) (zd_law14 (924, .invokevirtual 117, 3, 0, []) (List.mem_of_getElem? (i := 24) rfl)) (zd_law14 (927, .pop, 1, 0, []) (List.mem_of_getElem? (i := 25) rfl)) hI1 [(ma : Int), zl_y xs j 1, zl_y xs j 2] rfl ⟨zp_o2 h13, zl_yo, zl_yo, trivial⟩ trivial hl.1 hf (fun al2 hal2 rn2 P2 F2 H2 locs2 hx2 hI2 hfr2 hok2 hcs2 hB2 => ?_)
  have hR := zl_Rfr hR h12 h13 hx2 hfr2 (by decide +kernel)
  have h12 := hx2 _ _ h12
  have h13 := hx2 _ _ h13
  refine lv_goto (pc := 928) (tgt := 1372) hC.1 hC.2.1 (zd_law14 (928, .goto 444, 3, 0, []) (List.mem_of_getElem? (i := 26) rfl)) (by decide) ?_
  exact kk P2 F2 H2 locs2 hI2 h12 h13 hR
/-- case 25 -/
theorem zl_c25 {p : Program} {l : Launch} {e : Env} {s : State} {m : MethodId} {args : Array Value} {below : List Frame} {meth : Method} {c : Code} {Q : State → Prop} {w : zk_W} {b L : Nat} {xs : Nat → Int32} (hC : zl_C p s m args c w b L xs) {xa ma j : Nat} (hj : 6 * j + 5 < L) {P : Nat → Option Nat} {F : Nat → va_E} {H : Heap} {locs : List Loc} {cu su : Nat} {ls : Array Slot} (hl : lv_has ls 4 [(0, .ref b), (1, .ref xa), (2, .ref ma), (3, .int (nI (6 * j)))]) (hI : zl_I w s P F H locs) (h12 : P xa = some 12) (h13 : P ma = some 13) (hR : zl_R xa ma P (zp_n F)) (hf : cu + 16 ≤ 600000 ∧ su + 940 ≤ 7302250) (kk : ∀ (P' : Nat → Option Nat) (F' : Nat → va_E) (H' : Heap) (locs' : List Loc), zl_I w s P' F' H' locs' → P' xa = some 12 → P' ma = some 13 → zl_R xa ma P' (zp_n F') → W p l e room_1 s m args below meth c H' locs' (cu + 16) (su + 940) Q (F0 m 1372 ls [])) : W p l e room_1 s m args below meth c H locs cu su Q (F0 m 931 ls []) := by
  have hW : zh_W w := hC.2.2.2.2.2.2.2.2.1
  have hl0 := lv_at hl 0 rfl
  have hl1 := lv_at hl 1 rfl
  have hl2 := lv_at hl 2 rfl
  have hl3 := lv_at hl 3 rfl
  refine zl_this (pc := 931) (k := 1) (i := 1) (a := xa) hC (zd_law14 (931, .aload_n 1, 1, 0, []) (List.mem_of_getElem? (i := 27) rfl)) rfl hl1 ?_
  refine zl_arg (pc := 932) (j := j) (k := 1) (n := 1) hC hI (by omega) (by decide) hl0 hl3 (zd_law14 (932, .aload_n 0, 1, 0, []) (List.mem_of_getElem? (i := 28) rfl)) (zd_law14 (933, .iload_n 3, 1, 0, []) (List.mem_of_getElem? (i := 29) rfl)) (zd_law14 (934, .iconst 1, 1, 0, []) (List.mem_of_getElem? (i := 30) rfl)) (zd_law14 (935, .iadd, 1, 0, []) (List.mem_of_getElem? (i := 31) rfl)) (zd_law14 (936, .iaload, 1, 0, []) (List.mem_of_getElem? (i := 32) rfl)) ?_
  refine zl_callp (pc := 937) (how := 0) (idx := 118) (mi := 137) (mcm := 16) (msm := 940) (pl := [1131, 115, 1132, 1133]) hC (zp_plain (zq_249 hW)) (by decide +kernel) rfl (by decide +kernel) (zd_law14 (937, .invokevirtual 118, 3, 0, []) (List.mem_of_getElem? (i := 33) rfl)) (zd_law14 (940, .pop, 1, 0, []) (List.mem_of_getElem? (i := 34) rfl)) hI [(xa : Int), zl_y xs j 1] rfl ⟨zp_o2 h12, zl_yo, trivial⟩ trivial hl.1 hf (fun al1 hal1 rn1 P1 F1 H1 locs1 hx1 hI1 hfr1 hok1 hcs1 hB1 => ?_)
  have hR := zl_Rfr hR h12 h13 hx1 hfr1 (by decide +kernel)
  have h12 := hx1 _ _ h12
  have h13 := hx1 _ _ h13
  refine zl_this (pc := 941) (k := 2) (i := 2) (a := ma) hC (zd_law14 (941, .aload_n 2, 1, 0, []) (List.mem_of_getElem? (i := 35) rfl)) rfl hl2 ?_
  refine zl_arg (pc := 942) (j := j) (k := 1) (n := 1) hC hI1 (by omega) (by decide) hl0 hl3 (zd_law14 (942, .aload_n 0, 1, 0, []) (List.mem_of_getElem? (i := 36) rfl)) (zd_law14 (943, .iload_n 3, 1, 0, []) (List.mem_of_getElem? (i := 37) rfl)) (zd_law14 (944, .iconst 1, 1, 0, []) (List.mem_of_getElem? (i := 38) rfl)) (zd_law14 (945, .iadd, 1, 0, []) (List.mem_of_getElem? (i := 39) rfl)) (zd_law15 (946, .iaload, 1, 0, []) (List.mem_of_getElem? (i := 0) rfl)) ?_
  refine zl_callp (pc := 947) (how := 0) (idx := 121) (mi := 257) (mcm := 0) (msm := 0) (pl := [1878, 128, 1879, 1880]) hC (zp_plain (zq_1093 hW)) (by decide +kernel) rfl (by decide +kernel) (zd_law15 (947, .invokevirtual 121, 3, 0, []) (List.mem_of_getElem? (i := 1) rfl)) (zd_law15 (950, .pop, 1, 0, []) (List.mem_of_getElem? (i := 2) rfl)) hI1 [(ma : Int), zl_y xs j 1] rfl ⟨zp_o2 h13, zl_yo, trivial⟩ trivial hl.1 hf (fun al2 hal2 rn2 P2 F2 H2 locs2 hx2 hI2 hfr2 hok2 hcs2 hB2 => ?_)
  have hR := zl_Rfr hR h12 h13 hx2 hfr2 (by decide +kernel)
  have h12 := hx2 _ _ h12
  have h13 := hx2 _ _ h13
  refine lv_goto (pc := 951) (tgt := 1372) hC.1 hC.2.1 (zd_law15 (951, .goto 421, 3, 0, []) (List.mem_of_getElem? (i := 3) rfl)) (by decide) ?_
  exact kk P2 F2 H2 locs2 hI2 h12 h13 hR
/-- case 26 -/
theorem zl_c26 {p : Program} {l : Launch} {e : Env} {s : State} {m : MethodId} {args : Array Value} {below : List Frame} {meth : Method} {c : Code} {Q : State → Prop} {w : zk_W} {b L : Nat} {xs : Nat → Int32} (hC : zl_C p s m args c w b L xs) {xa ma j : Nat} (hj : 6 * j + 5 < L) {P : Nat → Option Nat} {F : Nat → va_E} {H : Heap} {locs : List Loc} {cu su : Nat} {ls : Array Slot} (hl : lv_has ls 4 [(0, .ref b), (1, .ref xa), (2, .ref ma), (3, .int (nI (6 * j)))]) (hI : zl_I w s P F H locs) (h12 : P xa = some 12) (h13 : P ma = some 13) (hR : zl_R xa ma P (zp_n F)) (hf : cu + 16 ≤ 600000 ∧ su + 940 ≤ 7302250) (kk : ∀ (P' : Nat → Option Nat) (F' : Nat → va_E) (H' : Heap) (locs' : List Loc), zl_I w s P' F' H' locs' → P' xa = some 12 → P' ma = some 13 → zl_R xa ma P' (zp_n F') → W p l e room_1 s m args below meth c H' locs' (cu + 16) (su + 940) Q (F0 m 1372 ls [])) : W p l e room_1 s m args below meth c H locs cu su Q (F0 m 954 ls []) := by
  have hW : zh_W w := hC.2.2.2.2.2.2.2.2.1
  have hl0 := lv_at hl 0 rfl
  have hl1 := lv_at hl 1 rfl
  have hl2 := lv_at hl 2 rfl
  have hl3 := lv_at hl 3 rfl
  refine zl_this (pc := 954) (k := 1) (i := 1) (a := xa) hC (zd_law15 (954, .aload_n 1, 1, 0, []) (List.mem_of_getElem? (i := 4) rfl)) rfl hl1 ?_
  refine zl_arg (pc := 955) (j := j) (k := 1) (n := 1) hC hI (by omega) (by decide) hl0 hl3 (zd_law15 (955, .aload_n 0, 1, 0, []) (List.mem_of_getElem? (i := 5) rfl)) (zd_law15 (956, .iload_n 3, 1, 0, []) (List.mem_of_getElem? (i := 6) rfl)) (zd_law15 (957, .iconst 1, 1, 0, []) (List.mem_of_getElem? (i := 7) rfl)) (zd_law15 (958, .iadd, 1, 0, []) (List.mem_of_getElem? (i := 8) rfl)) (zd_law15 (959, .iaload, 1, 0, []) (List.mem_of_getElem? (i := 9) rfl)) ?_
  refine zl_arg (pc := 960) (j := j) (k := 2) (n := 2) hC hI (by omega) (by decide) hl0 hl3 (zd_law15 (960, .aload_n 0, 1, 0, []) (List.mem_of_getElem? (i := 10) rfl)) (zd_law15 (961, .iload_n 3, 1, 0, []) (List.mem_of_getElem? (i := 11) rfl)) (zd_law15 (962, .iconst 2, 1, 0, []) (List.mem_of_getElem? (i := 12) rfl)) (zd_law15 (963, .iadd, 1, 0, []) (List.mem_of_getElem? (i := 13) rfl)) (zd_law15 (964, .iaload, 1, 0, []) (List.mem_of_getElem? (i := 14) rfl)) ?_
  refine zl_arg (pc := 965) (j := j) (k := 3) (n := 3) hC hI (by omega) (by decide) hl0 hl3 (zd_law15 (965, .aload_n 0, 1, 0, []) (List.mem_of_getElem? (i := 15) rfl)) (zd_law15 (966, .iload_n 3, 1, 0, []) (List.mem_of_getElem? (i := 16) rfl)) (zd_law15 (967, .iconst 3, 1, 0, []) (List.mem_of_getElem? (i := 17) rfl)) (zd_law15 (968, .iadd, 1, 0, []) (List.mem_of_getElem? (i := 18) rfl)) (zd_law15 (969, .iaload, 1, 0, []) (List.mem_of_getElem? (i := 19) rfl)) ?_
  refine zl_callp (pc := 970) (how := 0) (idx := 122) (mi := 139) (mcm := 16) (msm := 940) (pl := [1139, 115, 1140, 1141]) hC (zp_plain (zq_258 hW)) (by decide +kernel) rfl (by decide +kernel) (zd_law15 (970, .invokevirtual 122, 3, 0, []) (List.mem_of_getElem? (i := 20) rfl)) (zd_law15 (973, .pop, 1, 0, []) (List.mem_of_getElem? (i := 21) rfl)) hI [(xa : Int), zl_y xs j 1, zl_y xs j 2, zl_y xs j 3] rfl ⟨zp_o2 h12, zl_yo, zl_yo, zl_yo, trivial⟩ trivial hl.1 hf (fun al1 hal1 rn1 P1 F1 H1 locs1 hx1 hI1 hfr1 hok1 hcs1 hB1 => ?_)
  have hR := zl_Rfr hR h12 h13 hx1 hfr1 (by decide +kernel)
  have h12 := hx1 _ _ h12
  have h13 := hx1 _ _ h13
  refine zl_this (pc := 974) (k := 2) (i := 2) (a := ma) hC (zd_law15 (974, .aload_n 2, 1, 0, []) (List.mem_of_getElem? (i := 22) rfl)) rfl hl2 ?_
  refine zl_arg (pc := 975) (j := j) (k := 1) (n := 1) hC hI1 (by omega) (by decide) hl0 hl3 (zd_law15 (975, .aload_n 0, 1, 0, []) (List.mem_of_getElem? (i := 23) rfl)) (zd_law15 (976, .iload_n 3, 1, 0, []) (List.mem_of_getElem? (i := 24) rfl)) (zd_law15 (977, .iconst 1, 1, 0, []) (List.mem_of_getElem? (i := 25) rfl)) (zd_law15 (978, .iadd, 1, 0, []) (List.mem_of_getElem? (i := 26) rfl)) (zd_law15 (979, .iaload, 1, 0, []) (List.mem_of_getElem? (i := 27) rfl)) ?_
  refine zl_arg (pc := 980) (j := j) (k := 2) (n := 2) hC hI1 (by omega) (by decide) hl0 hl3 (zd_law15 (980, .aload_n 0, 1, 0, []) (List.mem_of_getElem? (i := 28) rfl)) (zd_law15 (981, .iload_n 3, 1, 0, []) (List.mem_of_getElem? (i := 29) rfl)) (zd_law15 (982, .iconst 2, 1, 0, []) (List.mem_of_getElem? (i := 30) rfl)) (zd_law15 (983, .iadd, 1, 0, []) (List.mem_of_getElem? (i := 31) rfl)) (zd_law15 (984, .iaload, 1, 0, []) (List.mem_of_getElem? (i := 32) rfl)) ?_
  refine zl_arg (pc := 985) (j := j) (k := 3) (n := 3) hC hI1 (by omega) (by decide) hl0 hl3 (zd_law15 (985, .aload_n 0, 1, 0, []) (List.mem_of_getElem? (i := 33) rfl)) (zd_law15 (986, .iload_n 3, 1, 0, []) (List.mem_of_getElem? (i := 34) rfl)) (zd_law15 (987, .iconst 3, 1, 0, []) (List.mem_of_getElem? (i := 35) rfl)) (zd_law15 (988, .iadd, 1, 0, []) (List.mem_of_getElem? (i := 36) rfl)) (zd_law15 (989, .iaload, 1, 0, []) (List.mem_of_getElem? (i := 37) rfl)) ?_
  refine zl_callp (pc := 990) (how := 0) (idx := 125) (mi := 259) (mcm := 0) (msm := 0) (pl := [1885, 128, 1886, 1887]) hC (zX_od hW) (by decide +kernel) rfl (by decide +kernel) (zd_law15 (990, .invokevirtual 125, 3, 0, []) (List.mem_of_getElem? (i := 38) rfl)) (zd_law15 (993, .pop, 1, 0, []) (List.mem_of_getElem? (i := 39) rfl)) hI1 [(ma : Int), zl_y xs j 1, zl_y xs j 2, zl_y xs j 3] rfl ⟨zp_o2 h13, zl_yo, zl_yo, zl_yo, trivial⟩ trivial hl.1 hf (fun al2 hal2 rn2 P2 F2 H2 locs2 hx2 hI2 hfr2 hok2 hcs2 hB2 => ?_)
  have hR := zl_Rfr hR h12 h13 hx2 hfr2 (by decide +kernel)
  have h12 := hx2 _ _ h12
  have h13 := hx2 _ _ h13
  refine lv_goto (pc := 994) (tgt := 1372) hC.1 hC.2.1 (zd_law16 (994, .goto 378, 3, 0, []) (List.mem_of_getElem? (i := 0) rfl)) (by decide) ?_
  exact kk P2 F2 H2 locs2 hI2 h12 h13 hR
/-- case 27 -/
theorem zl_c27 {p : Program} {l : Launch} {e : Env} {s : State} {m : MethodId} {args : Array Value} {below : List Frame} {meth : Method} {c : Code} {Q : State → Prop} {w : zk_W} {b L : Nat} {xs : Nat → Int32} (hC : zl_C p s m args c w b L xs) {xa ma j : Nat} (hj : 6 * j + 5 < L) {P : Nat → Option Nat} {F : Nat → va_E} {H : Heap} {locs : List Loc} {cu su : Nat} {ls : Array Slot} (hl : lv_has ls 4 [(0, .ref b), (1, .ref xa), (2, .ref ma), (3, .int (nI (6 * j)))]) (hI : zl_I w s P F H locs) (h12 : P xa = some 12) (h13 : P ma = some 13) (hR : zl_R xa ma P (zp_n F)) (hf : cu + 16 ≤ 600000 ∧ su + 940 ≤ 7302250) (kk : ∀ (P' : Nat → Option Nat) (F' : Nat → va_E) (H' : Heap) (locs' : List Loc), zl_I w s P' F' H' locs' → P' xa = some 12 → P' ma = some 13 → zl_R xa ma P' (zp_n F') → W p l e room_1 s m args below meth c H' locs' (cu + 16) (su + 940) Q (F0 m 1372 ls [])) : W p l e room_1 s m args below meth c H locs cu su Q (F0 m 997 ls []) := by
  have hW : zh_W w := hC.2.2.2.2.2.2.2.2.1
  have hl0 := lv_at hl 0 rfl
  have hl1 := lv_at hl 1 rfl
  have hl2 := lv_at hl 2 rfl
  have hl3 := lv_at hl 3 rfl
  refine zl_this (pc := 997) (k := 1) (i := 1) (a := xa) hC (zd_law16 (997, .aload_n 1, 1, 0, []) (List.mem_of_getElem? (i := 1) rfl)) rfl hl1 ?_
  refine zl_arg (pc := 998) (j := j) (k := 1) (n := 1) hC hI (by omega) (by decide) hl0 hl3 (zd_law16 (998, .aload_n 0, 1, 0, []) (List.mem_of_getElem? (i := 2) rfl)) (zd_law16 (999, .iload_n 3, 1, 0, []) (List.mem_of_getElem? (i := 3) rfl)) (zd_law16 (1000, .iconst 1, 1, 0, []) (List.mem_of_getElem? (i := 4) rfl)) (zd_law16 (1001, .iadd, 1, 0, []) (List.mem_of_getElem? (i := 5) rfl)) (zd_law16 (1002, .iaload, 1, 0, []) (List.mem_of_getElem? (i := 6) rfl)) ?_
  refine zl_arg (pc := 1003) (j := j) (k := 2) (n := 2) hC hI (by omega) (by decide) hl0 hl3 (zd_law16 (1003, .aload_n 0, 1, 0, []) (List.mem_of_getElem? (i := 7) rfl)) (zd_law16 (1004, .iload_n 3, 1, 0, []) (List.mem_of_getElem? (i := 8) rfl)) (zd_law16 (1005, .iconst 2, 1, 0, []) (List.mem_of_getElem? (i := 9) rfl)) (zd_law16 (1006, .iadd, 1, 0, []) (List.mem_of_getElem? (i := 10) rfl)) (zd_law16 (1007, .iaload, 1, 0, []) (List.mem_of_getElem? (i := 11) rfl)) ?_
  refine zl_callp (pc := 1008) (how := 0) (idx := 126) (mi := 148) (mcm := 16) (msm := 940) (pl := [1182, 115, 1183, 1184]) hC (zX_li hW) (by decide +kernel) rfl (by decide +kernel) (zd_law16 (1008, .invokevirtual 126, 3, 0, []) (List.mem_of_getElem? (i := 12) rfl)) (zd_law16 (1011, .pop, 1, 0, []) (List.mem_of_getElem? (i := 13) rfl)) hI [(xa : Int), zl_y xs j 1, zl_y xs j 2] rfl ⟨zp_o2 h12, zl_yo, zl_yo, trivial⟩ trivial hl.1 hf (fun al1 hal1 rn1 P1 F1 H1 locs1 hx1 hI1 hfr1 hok1 hcs1 hB1 => ?_)
  have hR := zl_Rfr hR h12 h13 hx1 hfr1 (by decide +kernel)
  have h12 := hx1 _ _ h12
  have h13 := hx1 _ _ h13
  refine zl_this (pc := 1012) (k := 2) (i := 2) (a := ma) hC (zd_law16 (1012, .aload_n 2, 1, 0, []) (List.mem_of_getElem? (i := 14) rfl)) rfl hl2 ?_
  refine zl_arg (pc := 1013) (j := j) (k := 1) (n := 1) hC hI1 (by omega) (by decide) hl0 hl3 (zd_law16 (1013, .aload_n 0, 1, 0, []) (List.mem_of_getElem? (i := 15) rfl)) (zd_law16 (1014, .iload_n 3, 1, 0, []) (List.mem_of_getElem? (i := 16) rfl)) (zd_law16 (1015, .iconst 1, 1, 0, []) (List.mem_of_getElem? (i := 17) rfl)) (zd_law16 (1016, .iadd, 1, 0, []) (List.mem_of_getElem? (i := 18) rfl)) (zd_law16 (1017, .iaload, 1, 0, []) (List.mem_of_getElem? (i := 19) rfl)) ?_
  refine zl_arg (pc := 1018) (j := j) (k := 2) (n := 2) hC hI1 (by omega) (by decide) hl0 hl3 (zd_law16 (1018, .aload_n 0, 1, 0, []) (List.mem_of_getElem? (i := 20) rfl)) (zd_law16 (1019, .iload_n 3, 1, 0, []) (List.mem_of_getElem? (i := 21) rfl)) (zd_law16 (1020, .iconst 2, 1, 0, []) (List.mem_of_getElem? (i := 22) rfl)) (zd_law16 (1021, .iadd, 1, 0, []) (List.mem_of_getElem? (i := 23) rfl)) (zd_law16 (1022, .iaload, 1, 0, []) (List.mem_of_getElem? (i := 24) rfl)) ?_
  refine zl_callp (pc := 1023) (how := 0) (idx := 129) (mi := 262) (mcm := 0) (msm := 0) (pl := [1897, 128, 1898, 1899]) hC (zp_plain (zq_1100 hW)) (by decide +kernel) rfl (by decide +kernel) (zd_law16 (1023, .invokevirtual 129, 3, 0, []) (List.mem_of_getElem? (i := 25) rfl)) (zd_law16 (1026, .pop, 1, 0, []) (List.mem_of_getElem? (i := 26) rfl)) hI1 [(ma : Int), zl_y xs j 1, zl_y xs j 2] rfl ⟨zp_o2 h13, zl_yo, zl_yo, trivial⟩ trivial hl.1 hf (fun al2 hal2 rn2 P2 F2 H2 locs2 hx2 hI2 hfr2 hok2 hcs2 hB2 => ?_)
  have hR := zl_Rfr hR h12 h13 hx2 hfr2 (by decide +kernel)
  have h12 := hx2 _ _ h12
  have h13 := hx2 _ _ h13
  refine lv_goto (pc := 1027) (tgt := 1372) hC.1 hC.2.1 (zd_law16 (1027, .goto 345, 3, 0, []) (List.mem_of_getElem? (i := 27) rfl)) (by decide) ?_
  exact kk P2 F2 H2 locs2 hI2 h12 h13 hR
/-- case 28 -/
theorem zl_c28 {p : Program} {l : Launch} {e : Env} {s : State} {m : MethodId} {args : Array Value} {below : List Frame} {meth : Method} {c : Code} {Q : State → Prop} {w : zk_W} {b L : Nat} {xs : Nat → Int32} (hC : zl_C p s m args c w b L xs) {xa ma j : Nat} (hj : 6 * j + 5 < L) {P : Nat → Option Nat} {F : Nat → va_E} {H : Heap} {locs : List Loc} {cu su : Nat} {ls : Array Slot} (hl : lv_has ls 4 [(0, .ref b), (1, .ref xa), (2, .ref ma), (3, .int (nI (6 * j)))]) (hI : zl_I w s P F H locs) (h12 : P xa = some 12) (h13 : P ma = some 13) (hR : zl_R xa ma P (zp_n F)) (hf : cu + 16 ≤ 600000 ∧ su + 940 ≤ 7302250) (kk : ∀ (P' : Nat → Option Nat) (F' : Nat → va_E) (H' : Heap) (locs' : List Loc), zl_I w s P' F' H' locs' → P' xa = some 12 → P' ma = some 13 → zl_R xa ma P' (zp_n F') → W p l e room_1 s m args below meth c H' locs' (cu + 16) (su + 940) Q (F0 m 1372 ls [])) : W p l e room_1 s m args below meth c H locs cu su Q (F0 m 1030 ls []) := by
  have hW : zh_W w := hC.2.2.2.2.2.2.2.2.1
  have hl0 := lv_at hl 0 rfl
  have hl1 := lv_at hl 1 rfl
  have hl2 := lv_at hl 2 rfl
  have hl3 := lv_at hl 3 rfl
  refine zl_this (pc := 1030) (k := 1) (i := 1) (a := xa) hC (zd_law16 (1030, .aload_n 1, 1, 0, []) (List.mem_of_getElem? (i := 28) rfl)) rfl hl1 ?_
  refine zl_arg (pc := 1031) (j := j) (k := 1) (n := 1) hC hI (by omega) (by decide) hl0 hl3 (zd_law16 (1031, .aload_n 0, 1, 0, []) (List.mem_of_getElem? (i := 29) rfl)) (zd_law16 (1032, .iload_n 3, 1, 0, []) (List.mem_of_getElem? (i := 30) rfl)) (zd_law16 (1033, .iconst 1, 1, 0, []) (List.mem_of_getElem? (i := 31) rfl)) (zd_law16 (1034, .iadd, 1, 0, []) (List.mem_of_getElem? (i := 32) rfl)) (zd_law16 (1035, .iaload, 1, 0, []) (List.mem_of_getElem? (i := 33) rfl)) ?_
  refine zl_callp (pc := 1036) (how := 0) (idx := 130) (mi := 149) (mcm := 16) (msm := 940) (pl := [1188, 115, 1189, 1190]) hC (zp_plain (zq_260 hW)) (by decide +kernel) rfl (by decide +kernel) (zd_law16 (1036, .invokevirtual 130, 3, 0, []) (List.mem_of_getElem? (i := 34) rfl)) (zd_law16 (1039, .pop, 1, 0, []) (List.mem_of_getElem? (i := 35) rfl)) hI [(xa : Int), zl_y xs j 1] rfl ⟨zp_o2 h12, zl_yo, trivial⟩ trivial hl.1 hf (fun al1 hal1 rn1 P1 F1 H1 locs1 hx1 hI1 hfr1 hok1 hcs1 hB1 => ?_)
  have hR := zl_Rfr hR h12 h13 hx1 hfr1 (by decide +kernel)
  have h12 := hx1 _ _ h12
  have h13 := hx1 _ _ h13
  refine zl_this (pc := 1040) (k := 2) (i := 2) (a := ma) hC (zd_law16 (1040, .aload_n 2, 1, 0, []) (List.mem_of_getElem? (i := 36) rfl)) rfl hl2 ?_
  refine zl_arg (pc := 1041) (j := j) (k := 1) (n := 1) hC hI1 (by omega) (by decide) hl0 hl3 (zd_law16 (1041, .aload_n 0, 1, 0, []) (List.mem_of_getElem? (i := 37) rfl)) (zd_law16 (1042, .iload_n 3, 1, 0, []) (List.mem_of_getElem? (i := 38) rfl)) (zd_law16 (1043, .iconst 1, 1, 0, []) (List.mem_of_getElem? (i := 39) rfl)) (zd_law17 (1044, .iadd, 1, 0, []) (List.mem_of_getElem? (i := 0) rfl)) (zd_law17 (1045, .iaload, 1, 0, []) (List.mem_of_getElem? (i := 1) rfl)) ?_
  refine zl_callp (pc := 1046) (how := 0) (idx := 133) (mi := 263) (mcm := 0) (msm := 0) (pl := [1901, 128, 1902, 1903]) hC (zp_plain (zq_1103 hW)) (by decide +kernel) rfl (by decide +kernel) (zd_law17 (1046, .invokevirtual 133, 3, 0, []) (List.mem_of_getElem? (i := 2) rfl)) (zd_law17 (1049, .pop, 1, 0, []) (List.mem_of_getElem? (i := 3) rfl)) hI1 [(ma : Int), zl_y xs j 1] rfl ⟨zp_o2 h13, zl_yo, trivial⟩ trivial hl.1 hf (fun al2 hal2 rn2 P2 F2 H2 locs2 hx2 hI2 hfr2 hok2 hcs2 hB2 => ?_)
  have hR := zl_Rfr hR h12 h13 hx2 hfr2 (by decide +kernel)
  have h12 := hx2 _ _ h12
  have h13 := hx2 _ _ h13
  refine lv_goto (pc := 1050) (tgt := 1372) hC.1 hC.2.1 (zd_law17 (1050, .goto 322, 3, 0, []) (List.mem_of_getElem? (i := 4) rfl)) (by decide) ?_
  exact kk P2 F2 H2 locs2 hI2 h12 h13 hR
/-- case 29 -/
theorem zl_c29 {p : Program} {l : Launch} {e : Env} {s : State} {m : MethodId} {args : Array Value} {below : List Frame} {meth : Method} {c : Code} {Q : State → Prop} {w : zk_W} {b L : Nat} {xs : Nat → Int32} (hC : zl_C p s m args c w b L xs) {xa ma j : Nat} (hj : 6 * j + 5 < L) {P : Nat → Option Nat} {F : Nat → va_E} {H : Heap} {locs : List Loc} {cu su : Nat} {ls : Array Slot} (hl : lv_has ls 4 [(0, .ref b), (1, .ref xa), (2, .ref ma), (3, .int (nI (6 * j)))]) (hI : zl_I w s P F H locs) (h12 : P xa = some 12) (h13 : P ma = some 13) (hR : zl_R xa ma P (zp_n F)) (hf : cu + 16 ≤ 600000 ∧ su + 940 ≤ 7302250) (kk : ∀ (P' : Nat → Option Nat) (F' : Nat → va_E) (H' : Heap) (locs' : List Loc), zl_I w s P' F' H' locs' → P' xa = some 12 → P' ma = some 13 → zl_R xa ma P' (zp_n F') → W p l e room_1 s m args below meth c H' locs' (cu + 16) (su + 940) Q (F0 m 1372 ls [])) : W p l e room_1 s m args below meth c H locs cu su Q (F0 m 1053 ls []) := by
  have hW : zh_W w := hC.2.2.2.2.2.2.2.2.1
  have hl0 := lv_at hl 0 rfl
  have hl1 := lv_at hl 1 rfl
  have hl2 := lv_at hl 2 rfl
  have hl3 := lv_at hl 3 rfl
  refine zl_this (pc := 1053) (k := 1) (i := 1) (a := xa) hC (zd_law17 (1053, .aload_n 1, 1, 0, []) (List.mem_of_getElem? (i := 5) rfl)) rfl hl1 ?_
  refine zl_arg (pc := 1054) (j := j) (k := 1) (n := 1) hC hI (by omega) (by decide) hl0 hl3 (zd_law17 (1054, .aload_n 0, 1, 0, []) (List.mem_of_getElem? (i := 6) rfl)) (zd_law17 (1055, .iload_n 3, 1, 0, []) (List.mem_of_getElem? (i := 7) rfl)) (zd_law17 (1056, .iconst 1, 1, 0, []) (List.mem_of_getElem? (i := 8) rfl)) (zd_law17 (1057, .iadd, 1, 0, []) (List.mem_of_getElem? (i := 9) rfl)) (zd_law17 (1058, .iaload, 1, 0, []) (List.mem_of_getElem? (i := 10) rfl)) ?_
  refine zl_arg (pc := 1059) (j := j) (k := 2) (n := 2) hC hI (by omega) (by decide) hl0 hl3 (zd_law17 (1059, .aload_n 0, 1, 0, []) (List.mem_of_getElem? (i := 11) rfl)) (zd_law17 (1060, .iload_n 3, 1, 0, []) (List.mem_of_getElem? (i := 12) rfl)) (zd_law17 (1061, .iconst 2, 1, 0, []) (List.mem_of_getElem? (i := 13) rfl)) (zd_law17 (1062, .iadd, 1, 0, []) (List.mem_of_getElem? (i := 14) rfl)) (zd_law17 (1063, .iaload, 1, 0, []) (List.mem_of_getElem? (i := 15) rfl)) ?_
  refine zl_callq (pc := 1064) (how := 0) (idx := 134) (mi := 150) (mcm := 16) (msm := 940) (pl := [1193, 115, 1194, 1195]) hC (zp_plain (zq_261 hW)) (by decide +kernel) rfl (by decide +kernel) (zd_law17 (1064, .invokevirtual 134, 3, 0, []) (List.mem_of_getElem? (i := 16) rfl)) (zd_law17 (1067, .pop2, 1, 0, []) (List.mem_of_getElem? (i := 17) rfl)) hI [(xa : Int), zl_y xs j 1, zl_y xs j 2] rfl ⟨zp_o2 h12, zl_yo, zl_yo, trivial⟩ trivial hl.1 hf (fun al1 hal1 rn1 P1 F1 H1 locs1 hx1 hI1 hfr1 hok1 hcs1 hB1 => ?_)
  have hR := zl_Rfr hR h12 h13 hx1 hfr1 (by decide +kernel)
  have h12 := hx1 _ _ h12
  have h13 := hx1 _ _ h13
  refine zl_this (pc := 1068) (k := 2) (i := 2) (a := ma) hC (zd_law17 (1068, .aload_n 2, 1, 0, []) (List.mem_of_getElem? (i := 18) rfl)) rfl hl2 ?_
  refine zl_arg (pc := 1069) (j := j) (k := 1) (n := 1) hC hI1 (by omega) (by decide) hl0 hl3 (zd_law17 (1069, .aload_n 0, 1, 0, []) (List.mem_of_getElem? (i := 19) rfl)) (zd_law17 (1070, .iload_n 3, 1, 0, []) (List.mem_of_getElem? (i := 20) rfl)) (zd_law17 (1071, .iconst 1, 1, 0, []) (List.mem_of_getElem? (i := 21) rfl)) (zd_law17 (1072, .iadd, 1, 0, []) (List.mem_of_getElem? (i := 22) rfl)) (zd_law17 (1073, .iaload, 1, 0, []) (List.mem_of_getElem? (i := 23) rfl)) ?_
  refine zl_arg (pc := 1074) (j := j) (k := 2) (n := 2) hC hI1 (by omega) (by decide) hl0 hl3 (zd_law17 (1074, .aload_n 0, 1, 0, []) (List.mem_of_getElem? (i := 24) rfl)) (zd_law17 (1075, .iload_n 3, 1, 0, []) (List.mem_of_getElem? (i := 25) rfl)) (zd_law17 (1076, .iconst 2, 1, 0, []) (List.mem_of_getElem? (i := 26) rfl)) (zd_law17 (1077, .iadd, 1, 0, []) (List.mem_of_getElem? (i := 27) rfl)) (zd_law17 (1078, .iaload, 1, 0, []) (List.mem_of_getElem? (i := 28) rfl)) ?_
  refine zl_callq (pc := 1079) (how := 0) (idx := 138) (mi := 265) (mcm := 0) (msm := 0) (pl := [1909, 128, 1910, 1911]) hC (zp_plain (zq_1105 hW)) (by decide +kernel) rfl (by decide +kernel) (zd_law17 (1079, .invokevirtual 138, 3, 0, []) (List.mem_of_getElem? (i := 29) rfl)) (zd_law17 (1082, .pop2, 1, 0, []) (List.mem_of_getElem? (i := 30) rfl)) hI1 [(ma : Int), zl_y xs j 1, zl_y xs j 2] rfl ⟨zp_o2 h13, zl_yo, zl_yo, trivial⟩ trivial hl.1 hf (fun al2 hal2 rn2 P2 F2 H2 locs2 hx2 hI2 hfr2 hok2 hcs2 hB2 => ?_)
  have hR := zl_Rfr hR h12 h13 hx2 hfr2 (by decide +kernel)
  have h12 := hx2 _ _ h12
  have h13 := hx2 _ _ h13
  refine lv_goto (pc := 1083) (tgt := 1372) hC.1 hC.2.1 (zd_law17 (1083, .goto 289, 3, 0, []) (List.mem_of_getElem? (i := 31) rfl)) (by decide) ?_
  exact kk P2 F2 H2 locs2 hI2 h12 h13 hR
/-- case 30 -/
theorem zl_c30 {p : Program} {l : Launch} {e : Env} {s : State} {m : MethodId} {args : Array Value} {below : List Frame} {meth : Method} {c : Code} {Q : State → Prop} {w : zk_W} {b L : Nat} {xs : Nat → Int32} (hC : zl_C p s m args c w b L xs) {xa ma j : Nat} (hj : 6 * j + 5 < L) {P : Nat → Option Nat} {F : Nat → va_E} {H : Heap} {locs : List Loc} {cu su : Nat} {ls : Array Slot} (hl : lv_has ls 4 [(0, .ref b), (1, .ref xa), (2, .ref ma), (3, .int (nI (6 * j)))]) (hI : zl_I w s P F H locs) (h12 : P xa = some 12) (h13 : P ma = some 13) (hR : zl_R xa ma P (zp_n F)) (hf : cu + 16 ≤ 600000 ∧ su + 940 ≤ 7302250) (kk : ∀ (P' : Nat → Option Nat) (F' : Nat → va_E) (H' : Heap) (locs' : List Loc), zl_I w s P' F' H' locs' → P' xa = some 12 → P' ma = some 13 → zl_R xa ma P' (zp_n F') → W p l e room_1 s m args below meth c H' locs' (cu + 16) (su + 940) Q (F0 m 1372 ls [])) : W p l e room_1 s m args below meth c H locs cu su Q (F0 m 1086 ls []) := by
  have hW : zh_W w := hC.2.2.2.2.2.2.2.2.1
  have hl0 := lv_at hl 0 rfl
  have hl1 := lv_at hl 1 rfl
  have hl2 := lv_at hl 2 rfl
  have hl3 := lv_at hl 3 rfl
  refine zl_this (pc := 1086) (k := 1) (i := 1) (a := xa) hC (zd_law17 (1086, .aload_n 1, 1, 0, []) (List.mem_of_getElem? (i := 32) rfl)) rfl hl1 ?_
  refine zl_arg (pc := 1087) (j := j) (k := 1) (n := 1) hC hI (by omega) (by decide) hl0 hl3 (zd_law17 (1087, .aload_n 0, 1, 0, []) (List.mem_of_getElem? (i := 33) rfl)) (zd_law17 (1088, .iload_n 3, 1, 0, []) (List.mem_of_getElem? (i := 34) rfl)) (zd_law17 (1089, .iconst 1, 1, 0, []) (List.mem_of_getElem? (i := 35) rfl)) (zd_law17 (1090, .iadd, 1, 0, []) (List.mem_of_getElem? (i := 36) rfl)) (zd_law17 (1091, .iaload, 1, 0, []) (List.mem_of_getElem? (i := 37) rfl)) ?_
  refine zl_arg (pc := 1092) (j := j) (k := 2) (n := 2) hC hI (by omega) (by decide) hl0 hl3 (zd_law17 (1092, .aload_n 0, 1, 0, []) (List.mem_of_getElem? (i := 38) rfl)) (zd_law17 (1093, .iload_n 3, 1, 0, []) (List.mem_of_getElem? (i := 39) rfl)) (zd_law18 (1094, .iconst 2, 1, 0, []) (List.mem_of_getElem? (i := 0) rfl)) (zd_law18 (1095, .iadd, 1, 0, []) (List.mem_of_getElem? (i := 1) rfl)) (zd_law18 (1096, .iaload, 1, 0, []) (List.mem_of_getElem? (i := 2) rfl)) ?_
  refine zl_arg (pc := 1097) (j := j) (k := 3) (n := 3) hC hI (by omega) (by decide) hl0 hl3 (zd_law18 (1097, .aload_n 0, 1, 0, []) (List.mem_of_getElem? (i := 3) rfl)) (zd_law18 (1098, .iload_n 3, 1, 0, []) (List.mem_of_getElem? (i := 4) rfl)) (zd_law18 (1099, .iconst 3, 1, 0, []) (List.mem_of_getElem? (i := 5) rfl)) (zd_law18 (1100, .iadd, 1, 0, []) (List.mem_of_getElem? (i := 6) rfl)) (zd_law18 (1101, .iaload, 1, 0, []) (List.mem_of_getElem? (i := 7) rfl)) ?_
  refine zl_callp (pc := 1102) (how := 0) (idx := 139) (mi := 151) (mcm := 16) (msm := 940) (pl := [1200, 115, 1201, 1202]) hC (zX_sgs hW) (by decide +kernel) rfl (by decide +kernel) (zd_law18 (1102, .invokevirtual 139, 3, 0, []) (List.mem_of_getElem? (i := 8) rfl)) (zd_law18 (1105, .pop, 1, 0, []) (List.mem_of_getElem? (i := 9) rfl)) hI [(xa : Int), zl_y xs j 1, zl_y xs j 2, zl_y xs j 3] rfl ⟨zp_o2 h12, zl_yo, zl_yo, zl_yo, trivial⟩ trivial hl.1 hf (fun al1 hal1 rn1 P1 F1 H1 locs1 hx1 hI1 hfr1 hok1 hcs1 hB1 => ?_)
  obtain ⟨tn, im, tp, tb, rw_, ri, kp, mt, hS, hc, hd, ht, hi⟩ := hR
  have hS1 := zl_Sfr hS h12 h13 hx1 hfr1 (by decide +kernel)
  have hd1 := zl_dfr h12 h13 hd hfr1 (by decide +kernel)
  have ht1 := zl_tfr hS h13 ht hfr1 (by decide +kernel)
  have hi1 := zl_ifr hS hi hx1 hfr1 (by decide +kernel)
  have x11 : zp_n F1 tn 1 = zp_n F tn 1 := zp_nf hfr1 hS.1.2 (by decide +kernel)
  have x13 : zp_n F1 tn 3 = zp_n F tn 3 := zp_nf hfr1 hS.1.2 (by decide +kernel)
  have y10 : zp_n F1 rw_ (2000 + 0) = zp_n F rw_ (2000 + 0) := zp_ne hfr1 hS.2.2.2.2.1.2 (by decide +kernel)
  have y11 : zp_n F1 rw_ (2000 + 1) = zp_n F rw_ (2000 + 1) := zp_ne hfr1 hS.2.2.2.2.1.2 (by decide +kernel)
  have y12 : zp_n F1 rw_ (2000 + 2) = zp_n F rw_ (2000 + 2) := zp_ne hfr1 hS.2.2.2.2.1.2 (by decide +kernel)
  have b1 : (¬ (0 ≤ zl_y xs j 2 ∧ zl_y xs j 2 ≤ 23 ∧ 0 ≤ zl_y xs j 3 ∧ zl_y xs j 3 ≤ 600) → rn1 = -1 ∧ zp_n F1 (zp_n F xa 0).toNat 9 = zp_n F (zp_n F xa 0).toNat 9) ∧ ((0 ≤ zl_y xs j 2 ∧ zl_y xs j 2 ≤ 23 ∧ 0 ≤ zl_y xs j 3 ∧ zl_y xs j 3 ≤ 600) ∧ ¬ (0 ≤ zl_y xs j 1 ∧ zl_y xs j 1 < zp_n F (zp_n F xa 0).toNat 3) → rn1 = -2 ∧ zp_n F1 (zp_n F xa 0).toNat 9 = zp_n F (zp_n F xa 0).toNat 9) ∧ ((0 ≤ zl_y xs j 2 ∧ zl_y xs j 2 ≤ 23 ∧ 0 ≤ zl_y xs j 3 ∧ zl_y xs j 3 ≤ 600) ∧ (0 ≤ zl_y xs j 1 ∧ zl_y xs j 1 < zp_n F (zp_n F xa 0).toNat 3) ∧ 8 ≤ zp_n F (zp_n F xa 0).toNat 9 → rn1 = -5 ∧ zp_n F1 (zp_n F xa 0).toNat 9 = zp_n F (zp_n F xa 0).toNat 9) ∧ ((0 ≤ zl_y xs j 2 ∧ zl_y xs j 2 ≤ 23 ∧ 0 ≤ zl_y xs j 3 ∧ zl_y xs j 3 ≤ 600) ∧ (0 ≤ zl_y xs j 1 ∧ zl_y xs j 1 < zp_n F (zp_n F xa 0).toNat 3) ∧ zp_n F (zp_n F xa 0).toNat 9 < 8 → rn1 = zp_n F (zp_n F xa 0).toNat 9 + 1 ∧ zp_n F1 (zp_n F xa 0).toNat 9 = zp_n F (zp_n F xa 0).toNat 9 + 1) := hB1
  rw [hS.1.1, Int.toNat_natCast] at b1
  have h12 := hx1 _ _ h12
  have h13 := hx1 _ _ h13
  refine zl_this (pc := 1106) (k := 2) (i := 2) (a := ma) hC (zd_law18 (1106, .aload_n 2, 1, 0, []) (List.mem_of_getElem? (i := 10) rfl)) rfl hl2 ?_
  refine zl_arg (pc := 1107) (j := j) (k := 1) (n := 1) hC hI1 (by omega) (by decide) hl0 hl3 (zd_law18 (1107, .aload_n 0, 1, 0, []) (List.mem_of_getElem? (i := 11) rfl)) (zd_law18 (1108, .iload_n 3, 1, 0, []) (List.mem_of_getElem? (i := 12) rfl)) (zd_law18 (1109, .iconst 1, 1, 0, []) (List.mem_of_getElem? (i := 13) rfl)) (zd_law18 (1110, .iadd, 1, 0, []) (List.mem_of_getElem? (i := 14) rfl)) (zd_law18 (1111, .iaload, 1, 0, []) (List.mem_of_getElem? (i := 15) rfl)) ?_
  refine zl_arg (pc := 1112) (j := j) (k := 2) (n := 2) hC hI1 (by omega) (by decide) hl0 hl3 (zd_law18 (1112, .aload_n 0, 1, 0, []) (List.mem_of_getElem? (i := 16) rfl)) (zd_law18 (1113, .iload_n 3, 1, 0, []) (List.mem_of_getElem? (i := 17) rfl)) (zd_law18 (1114, .iconst 2, 1, 0, []) (List.mem_of_getElem? (i := 18) rfl)) (zd_law18 (1115, .iadd, 1, 0, []) (List.mem_of_getElem? (i := 19) rfl)) (zd_law18 (1116, .iaload, 1, 0, []) (List.mem_of_getElem? (i := 20) rfl)) ?_
  refine zl_arg (pc := 1117) (j := j) (k := 3) (n := 3) hC hI1 (by omega) (by decide) hl0 hl3 (zd_law18 (1117, .aload_n 0, 1, 0, []) (List.mem_of_getElem? (i := 21) rfl)) (zd_law18 (1118, .iload_n 3, 1, 0, []) (List.mem_of_getElem? (i := 22) rfl)) (zd_law18 (1119, .iconst 3, 1, 0, []) (List.mem_of_getElem? (i := 23) rfl)) (zd_law18 (1120, .iadd, 1, 0, []) (List.mem_of_getElem? (i := 24) rfl)) (zd_law18 (1121, .iaload, 1, 0, []) (List.mem_of_getElem? (i := 25) rfl)) ?_
  refine zl_callp (pc := 1122) (how := 0) (idx := 142) (mi := 266) (mcm := 0) (msm := 0) (pl := [1915, 128, 1916, 1917]) hC (zX_msg hW) (by decide +kernel) rfl (by decide +kernel) (zd_law18 (1122, .invokevirtual 142, 3, 0, []) (List.mem_of_getElem? (i := 26) rfl)) (zd_law18 (1125, .pop, 1, 0, []) (List.mem_of_getElem? (i := 27) rfl)) hI1 [(ma : Int), zl_y xs j 1, zl_y xs j 2, zl_y xs j 3] rfl ⟨zp_o2 h13, zl_yo, zl_yo, zl_yo, trivial⟩ trivial hl.1 hf (fun al2 hal2 rn2 P2 F2 H2 locs2 hx2 hI2 hfr2 hok2 hcs2 hB2 => ?_)
  have hS2 := zl_Sfr hS1 h12 h13 hx2 hfr2 (by decide +kernel)
  have hd2 := zl_dfr h12 h13 hd1 hfr2 (by decide +kernel)
  have ht2 := zl_tfr hS1 h13 ht1 hfr2 (by decide +kernel)
  have hi2 := zl_ifr hS1 hi1 hx2 hfr2 (by decide +kernel)
  have x21 : zp_n F2 tn 1 = zp_n F1 tn 1 := zp_nf hfr2 hS1.1.2 (by decide +kernel)
  have x23 : zp_n F2 tn 3 = zp_n F1 tn 3 := zp_nf hfr2 hS1.1.2 (by decide +kernel)
  have x29 : zp_n F2 tn 9 = zp_n F1 tn 9 := zp_nf hfr2 hS1.1.2 (by decide +kernel)
  have y20 : zp_n F2 rw_ (2000 + 0) = zp_n F1 rw_ (2000 + 0) := zp_ne hfr2 hS1.2.2.2.2.1.2 (by decide +kernel)
  have y21 : zp_n F2 rw_ (2000 + 1) = zp_n F1 rw_ (2000 + 1) := zp_ne hfr2 hS1.2.2.2.2.1.2 (by decide +kernel)
  have b2 : (¬ (0 ≤ zl_y xs j 2 ∧ zl_y xs j 2 ≤ 23 ∧ 0 ≤ zl_y xs j 3 ∧ zl_y xs j 3 ≤ 600) → rn2 = -1 ∧ zp_n F2 (zp_n F1 ma 3).toNat (2000 + 2) = zp_n F1 (zp_n F1 ma 3).toNat (2000 + 2)) ∧ ((0 ≤ zl_y xs j 2 ∧ zl_y xs j 2 ≤ 23 ∧ 0 ≤ zl_y xs j 3 ∧ zl_y xs j 3 ≤ 600) ∧ ¬ (0 ≤ zl_y xs j 1 ∧ zl_y xs j 1 < zp_n F1 (zp_n F1 ma 3).toNat (2000 + 1)) → rn2 = -2 ∧ zp_n F2 (zp_n F1 ma 3).toNat (2000 + 2) = zp_n F1 (zp_n F1 ma 3).toNat (2000 + 2)) ∧ ((0 ≤ zl_y xs j 2 ∧ zl_y xs j 2 ≤ 23 ∧ 0 ≤ zl_y xs j 3 ∧ zl_y xs j 3 ≤ 600) ∧ (0 ≤ zl_y xs j 1 ∧ zl_y xs j 1 < zp_n F1 (zp_n F1 ma 3).toNat (2000 + 1)) ∧ 8 ≤ zp_n F1 (zp_n F1 ma 3).toNat (2000 + 2) → rn2 = -5 ∧ zp_n F2 (zp_n F1 ma 3).toNat (2000 + 2) = zp_n F1 (zp_n F1 ma 3).toNat (2000 + 2)) ∧ ((0 ≤ zl_y xs j 2 ∧ zl_y xs j 2 ≤ 23 ∧ 0 ≤ zl_y xs j 3 ∧ zl_y xs j 3 ≤ 600) ∧ (0 ≤ zl_y xs j 1 ∧ zl_y xs j 1 < zp_n F1 (zp_n F1 ma 3).toNat (2000 + 1)) ∧ zp_n F1 (zp_n F1 ma 3).toNat (2000 + 2) < 8 → rn2 = zp_n F1 (zp_n F1 ma 3).toNat (2000 + 2) + 1 ∧ zp_n F2 (zp_n F1 ma 3).toNat (2000 + 2) = zp_n F1 (zp_n F1 ma 3).toNat (2000 + 2) + 1) := hB2
  rw [hS1.2.2.2.2.1.1, Int.toNat_natCast] at b2
  obtain ⟨c0, c1, c2⟩ := hc
  have e3 : rn1 = rn2 := by omega
  have hc2 : zl_c tn rw_ (zp_n F2) := ⟨by omega, by omega, by omega⟩
  have hR : zl_R xa ma P2 (zp_n F2) := ⟨tn, im, tp, tb, rw_, ri, kp, mt, hS2, hc2, hd2, ht2, hi2⟩
  have h12 := hx2 _ _ h12
  have h13 := hx2 _ _ h13
  refine lv_goto (pc := 1126) (tgt := 1372) hC.1 hC.2.1 (zd_law18 (1126, .goto 246, 3, 0, []) (List.mem_of_getElem? (i := 28) rfl)) (by decide) ?_
  exact kk P2 F2 H2 locs2 hI2 h12 h13 hR
/-- case 31 -/
theorem zl_c31 {p : Program} {l : Launch} {e : Env} {s : State} {m : MethodId} {args : Array Value} {below : List Frame} {meth : Method} {c : Code} {Q : State → Prop} {w : zk_W} {b L : Nat} {xs : Nat → Int32} (hC : zl_C p s m args c w b L xs) {xa ma j : Nat} (hj : 6 * j + 5 < L) {P : Nat → Option Nat} {F : Nat → va_E} {H : Heap} {locs : List Loc} {cu su : Nat} {ls : Array Slot} (hl : lv_has ls 4 [(0, .ref b), (1, .ref xa), (2, .ref ma), (3, .int (nI (6 * j)))]) (hI : zl_I w s P F H locs) (h12 : P xa = some 12) (h13 : P ma = some 13) (hR : zl_R xa ma P (zp_n F)) (hf : cu + 16 ≤ 600000 ∧ su + 940 ≤ 7302250) (kk : ∀ (P' : Nat → Option Nat) (F' : Nat → va_E) (H' : Heap) (locs' : List Loc), zl_I w s P' F' H' locs' → P' xa = some 12 → P' ma = some 13 → zl_R xa ma P' (zp_n F') → W p l e room_1 s m args below meth c H' locs' (cu + 16) (su + 940) Q (F0 m 1372 ls [])) : W p l e room_1 s m args below meth c H locs cu su Q (F0 m 1129 ls []) := by
  have hW : zh_W w := hC.2.2.2.2.2.2.2.2.1
  have hl0 := lv_at hl 0 rfl
  have hl1 := lv_at hl 1 rfl
  have hl2 := lv_at hl 2 rfl
  have hl3 := lv_at hl 3 rfl
  refine zl_this (pc := 1129) (k := 1) (i := 1) (a := xa) hC (zd_law18 (1129, .aload_n 1, 1, 0, []) (List.mem_of_getElem? (i := 29) rfl)) rfl hl1 ?_
  refine zl_callp (pc := 1130) (how := 0) (idx := 143) (mi := 153) (mcm := 16) (msm := 940) (pl := [1208, 115, 1209, 1210]) hC (zX_fgs hW) (by decide +kernel) rfl (by decide +kernel) (zd_law18 (1130, .invokevirtual 143, 3, 0, []) (List.mem_of_getElem? (i := 30) rfl)) (zd_law18 (1133, .pop, 1, 0, []) (List.mem_of_getElem? (i := 31) rfl)) hI [(xa : Int)] rfl ⟨zp_o2 h12, trivial⟩ trivial hl.1 hf (fun al1 hal1 rn1 P1 F1 H1 locs1 hx1 hI1 hfr1 hok1 hcs1 hB1 => ?_)
  obtain ⟨tn, im, tp, tb, rw_, ri, kp, mt, hS, hc, hd, ht, hi⟩ := hR
  have hS1 := zl_Sfr hS h12 h13 hx1 hfr1 (by decide +kernel)
  have hd1 := zl_dfr h12 h13 hd hfr1 (by decide +kernel)
  have ht1 := zl_tfr hS h13 ht hfr1 (by decide +kernel)
  have hi1 := zl_ifr hS hi hx1 hfr1 (by decide +kernel)
  have x11 : zp_n F1 tn 1 = zp_n F tn 1 := zp_nf hfr1 hS.1.2 (by decide +kernel)
  have x13 : zp_n F1 tn 3 = zp_n F tn 3 := zp_nf hfr1 hS.1.2 (by decide +kernel)
  have y10 : zp_n F1 rw_ (2000 + 0) = zp_n F rw_ (2000 + 0) := zp_ne hfr1 hS.2.2.2.2.1.2 (by decide +kernel)
  have y11 : zp_n F1 rw_ (2000 + 1) = zp_n F rw_ (2000 + 1) := zp_ne hfr1 hS.2.2.2.2.1.2 (by decide +kernel)
  have y12 : zp_n F1 rw_ (2000 + 2) = zp_n F rw_ (2000 + 2) := zp_ne hfr1 hS.2.2.2.2.1.2 (by decide +kernel)
  have b1 : rn1 = zp_n F (zp_n F xa 0).toNat 9 ∧ zp_n F1 (zp_n F xa 0).toNat 9 = 0 := hB1.2
  rw [hS.1.1, Int.toNat_natCast] at b1
  have h12 := hx1 _ _ h12
  have h13 := hx1 _ _ h13
  refine zl_this (pc := 1134) (k := 2) (i := 2) (a := ma) hC (zd_law18 (1134, .aload_n 2, 1, 0, []) (List.mem_of_getElem? (i := 32) rfl)) rfl hl2 ?_
  refine zl_callp (pc := 1135) (how := 0) (idx := 146) (mi := 267) (mcm := 0) (msm := 0) (pl := [1919, 128, 1920, 1921]) hC (zX_mfg hW) (by decide +kernel) rfl (by decide +kernel) (zd_law18 (1135, .invokevirtual 146, 3, 0, []) (List.mem_of_getElem? (i := 33) rfl)) (zd_law18 (1138, .pop, 1, 0, []) (List.mem_of_getElem? (i := 34) rfl)) hI1 [(ma : Int)] rfl ⟨zp_o2 h13, trivial⟩ trivial hl.1 hf (fun al2 hal2 rn2 P2 F2 H2 locs2 hx2 hI2 hfr2 hok2 hcs2 hB2 => ?_)
  have hS2 := zl_Sfr hS1 h12 h13 hx2 hfr2 (by decide +kernel)
  have hd2 := zl_dfr h12 h13 hd1 hfr2 (by decide +kernel)
  have ht2 := zl_tfr hS1 h13 ht1 hfr2 (by decide +kernel)
  have hi2 := zl_ifr hS1 hi1 hx2 hfr2 (by decide +kernel)
  have x21 : zp_n F2 tn 1 = zp_n F1 tn 1 := zp_nf hfr2 hS1.1.2 (by decide +kernel)
  have x23 : zp_n F2 tn 3 = zp_n F1 tn 3 := zp_nf hfr2 hS1.1.2 (by decide +kernel)
  have x29 : zp_n F2 tn 9 = zp_n F1 tn 9 := zp_nf hfr2 hS1.1.2 (by decide +kernel)
  have y20 : zp_n F2 rw_ (2000 + 0) = zp_n F1 rw_ (2000 + 0) := zp_ne hfr2 hS1.2.2.2.2.1.2 (by decide +kernel)
  have y21 : zp_n F2 rw_ (2000 + 1) = zp_n F1 rw_ (2000 + 1) := zp_ne hfr2 hS1.2.2.2.2.1.2 (by decide +kernel)
  have b2 : rn2 = zp_n F1 (zp_n F1 ma 3).toNat (2000 + 2) ∧ zp_n F2 (zp_n F1 ma 3).toNat (2000 + 2) = 0 := hB2.2
  rw [hS1.2.2.2.2.1.1, Int.toNat_natCast] at b2
  obtain ⟨c0, c1, c2⟩ := hc
  have e3 : rn1 = rn2 := by omega
  have hc2 : zl_c tn rw_ (zp_n F2) := ⟨by omega, by omega, by omega⟩
  have hR : zl_R xa ma P2 (zp_n F2) := ⟨tn, im, tp, tb, rw_, ri, kp, mt, hS2, hc2, hd2, ht2, hi2⟩
  have h12 := hx2 _ _ h12
  have h13 := hx2 _ _ h13
  refine lv_goto (pc := 1139) (tgt := 1372) hC.1 hC.2.1 (zd_law18 (1139, .goto 233, 3, 0, []) (List.mem_of_getElem? (i := 35) rfl)) (by decide) ?_
  exact kk P2 F2 H2 locs2 hI2 h12 h13 hR
/-- case 32 -/
theorem zl_c32 {p : Program} {l : Launch} {e : Env} {s : State} {m : MethodId} {args : Array Value} {below : List Frame} {meth : Method} {c : Code} {Q : State → Prop} {w : zk_W} {b L : Nat} {xs : Nat → Int32} (hC : zl_C p s m args c w b L xs) {xa ma j : Nat} (hj : 6 * j + 5 < L) {P : Nat → Option Nat} {F : Nat → va_E} {H : Heap} {locs : List Loc} {cu su : Nat} {ls : Array Slot} (hl : lv_has ls 4 [(0, .ref b), (1, .ref xa), (2, .ref ma), (3, .int (nI (6 * j)))]) (hI : zl_I w s P F H locs) (h12 : P xa = some 12) (h13 : P ma = some 13) (hR : zl_R xa ma P (zp_n F)) (hf : cu + 16 ≤ 600000 ∧ su + 940 ≤ 7302250) (kk : ∀ (P' : Nat → Option Nat) (F' : Nat → va_E) (H' : Heap) (locs' : List Loc), zl_I w s P' F' H' locs' → P' xa = some 12 → P' ma = some 13 → zl_R xa ma P' (zp_n F') → W p l e room_1 s m args below meth c H' locs' (cu + 16) (su + 940) Q (F0 m 1372 ls [])) : W p l e room_1 s m args below meth c H locs cu su Q (F0 m 1142 ls []) := by
  have hW : zh_W w := hC.2.2.2.2.2.2.2.2.1
  have hl0 := lv_at hl 0 rfl
  have hl1 := lv_at hl 1 rfl
  have hl2 := lv_at hl 2 rfl
  have hl3 := lv_at hl 3 rfl
  refine zl_this (pc := 1142) (k := 1) (i := 1) (a := xa) hC (zd_law18 (1142, .aload_n 1, 1, 0, []) (List.mem_of_getElem? (i := 36) rfl)) rfl hl1 ?_
  refine zl_callp (pc := 1143) (how := 0) (idx := 147) (mi := 154) (mcm := 16) (msm := 940) (pl := [1212, 115, 1213, 1214]) hC (zp_plain (zq_266 hW)) (by decide +kernel) rfl (by decide +kernel) (zd_law18 (1143, .invokevirtual 147, 3, 0, []) (List.mem_of_getElem? (i := 37) rfl)) (zd_law18 (1146, .pop, 1, 0, []) (List.mem_of_getElem? (i := 38) rfl)) hI [(xa : Int)] rfl ⟨zp_o2 h12, trivial⟩ trivial hl.1 hf (fun al1 hal1 rn1 P1 F1 H1 locs1 hx1 hI1 hfr1 hok1 hcs1 hB1 => ?_)
  have hR := zl_Rfr hR h12 h13 hx1 hfr1 (by decide +kernel)
  have h12 := hx1 _ _ h12
  have h13 := hx1 _ _ h13
  refine zl_this (pc := 1147) (k := 2) (i := 2) (a := ma) hC (zd_law18 (1147, .aload_n 2, 1, 0, []) (List.mem_of_getElem? (i := 39) rfl)) rfl hl2 ?_
  refine zl_callp (pc := 1148) (how := 0) (idx := 150) (mi := 268) (mcm := 0) (msm := 0) (pl := [1923, 128, 1924, 1925]) hC (zp_plain (zq_1109 hW)) (by decide +kernel) rfl (by decide +kernel) (zd_law19 (1148, .invokevirtual 150, 3, 0, []) (List.mem_of_getElem? (i := 0) rfl)) (zd_law19 (1151, .pop, 1, 0, []) (List.mem_of_getElem? (i := 1) rfl)) hI1 [(ma : Int)] rfl ⟨zp_o2 h13, trivial⟩ trivial hl.1 hf (fun al2 hal2 rn2 P2 F2 H2 locs2 hx2 hI2 hfr2 hok2 hcs2 hB2 => ?_)
  have hR := zl_Rfr hR h12 h13 hx2 hfr2 (by decide +kernel)
  have h12 := hx2 _ _ h12
  have h13 := hx2 _ _ h13
  refine lv_goto (pc := 1152) (tgt := 1372) hC.1 hC.2.1 (zd_law19 (1152, .goto 220, 3, 0, []) (List.mem_of_getElem? (i := 2) rfl)) (by decide) ?_
  exact kk P2 F2 H2 locs2 hI2 h12 h13 hR
/-- case 33 -/
theorem zl_c33 {p : Program} {l : Launch} {e : Env} {s : State} {m : MethodId} {args : Array Value} {below : List Frame} {meth : Method} {c : Code} {Q : State → Prop} {w : zk_W} {b L : Nat} {xs : Nat → Int32} (hC : zl_C p s m args c w b L xs) {xa ma j : Nat} (hj : 6 * j + 5 < L) {P : Nat → Option Nat} {F : Nat → va_E} {H : Heap} {locs : List Loc} {cu su : Nat} {ls : Array Slot} (hl : lv_has ls 4 [(0, .ref b), (1, .ref xa), (2, .ref ma), (3, .int (nI (6 * j)))]) (hI : zl_I w s P F H locs) (h12 : P xa = some 12) (h13 : P ma = some 13) (hR : zl_R xa ma P (zp_n F)) (hf : cu + 16 ≤ 600000 ∧ su + 940 ≤ 7302250) (kk : ∀ (P' : Nat → Option Nat) (F' : Nat → va_E) (H' : Heap) (locs' : List Loc), zl_I w s P' F' H' locs' → P' xa = some 12 → P' ma = some 13 → zl_R xa ma P' (zp_n F') → W p l e room_1 s m args below meth c H' locs' (cu + 16) (su + 940) Q (F0 m 1372 ls [])) : W p l e room_1 s m args below meth c H locs cu su Q (F0 m 1155 ls []) := by
  have hW : zh_W w := hC.2.2.2.2.2.2.2.2.1
  have hl0 := lv_at hl 0 rfl
  have hl1 := lv_at hl 1 rfl
  have hl2 := lv_at hl 2 rfl
  have hl3 := lv_at hl 3 rfl
  refine zl_this (pc := 1155) (k := 1) (i := 1) (a := xa) hC (zd_law19 (1155, .aload_n 1, 1, 0, []) (List.mem_of_getElem? (i := 3) rfl)) rfl hl1 ?_
  refine zl_arg (pc := 1156) (j := j) (k := 1) (n := 1) hC hI (by omega) (by decide) hl0 hl3 (zd_law19 (1156, .aload_n 0, 1, 0, []) (List.mem_of_getElem? (i := 4) rfl)) (zd_law19 (1157, .iload_n 3, 1, 0, []) (List.mem_of_getElem? (i := 5) rfl)) (zd_law19 (1158, .iconst 1, 1, 0, []) (List.mem_of_getElem? (i := 6) rfl)) (zd_law19 (1159, .iadd, 1, 0, []) (List.mem_of_getElem? (i := 7) rfl)) (zd_law19 (1160, .iaload, 1, 0, []) (List.mem_of_getElem? (i := 8) rfl)) ?_
  refine zl_callp (pc := 1161) (how := 0) (idx := 151) (mi := 156) (mcm := 16) (msm := 940) (pl := [1220, 115, 1221, 1222]) hC (zp_plain (zq_270 hW)) (by decide +kernel) rfl (by decide +kernel) (zd_law19 (1161, .invokevirtual 151, 3, 0, []) (List.mem_of_getElem? (i := 9) rfl)) (zd_law19 (1164, .pop, 1, 0, []) (List.mem_of_getElem? (i := 10) rfl)) hI [(xa : Int), zl_y xs j 1] rfl ⟨zp_o2 h12, zl_yo, trivial⟩ trivial hl.1 hf (fun al1 hal1 rn1 P1 F1 H1 locs1 hx1 hI1 hfr1 hok1 hcs1 hB1 => ?_)
  have hR := zl_Rfr hR h12 h13 hx1 hfr1 (by decide +kernel)
  have h12 := hx1 _ _ h12
  have h13 := hx1 _ _ h13
  refine zl_this (pc := 1165) (k := 2) (i := 2) (a := ma) hC (zd_law19 (1165, .aload_n 2, 1, 0, []) (List.mem_of_getElem? (i := 11) rfl)) rfl hl2 ?_
  refine zl_arg (pc := 1166) (j := j) (k := 1) (n := 1) hC hI1 (by omega) (by decide) hl0 hl3 (zd_law19 (1166, .aload_n 0, 1, 0, []) (List.mem_of_getElem? (i := 12) rfl)) (zd_law19 (1167, .iload_n 3, 1, 0, []) (List.mem_of_getElem? (i := 13) rfl)) (zd_law19 (1168, .iconst 1, 1, 0, []) (List.mem_of_getElem? (i := 14) rfl)) (zd_law19 (1169, .iadd, 1, 0, []) (List.mem_of_getElem? (i := 15) rfl)) (zd_law19 (1170, .iaload, 1, 0, []) (List.mem_of_getElem? (i := 16) rfl)) ?_
  refine zl_callp (pc := 1171) (how := 0) (idx := 154) (mi := 269) (mcm := 0) (msm := 0) (pl := [1927, 128, 1928, 1929]) hC (zp_plain (zq_1111 hW)) (by decide +kernel) rfl (by decide +kernel) (zd_law19 (1171, .invokevirtual 154, 3, 0, []) (List.mem_of_getElem? (i := 17) rfl)) (zd_law19 (1174, .pop, 1, 0, []) (List.mem_of_getElem? (i := 18) rfl)) hI1 [(ma : Int), zl_y xs j 1] rfl ⟨zp_o2 h13, zl_yo, trivial⟩ trivial hl.1 hf (fun al2 hal2 rn2 P2 F2 H2 locs2 hx2 hI2 hfr2 hok2 hcs2 hB2 => ?_)
  have hR := zl_Rfr hR h12 h13 hx2 hfr2 (by decide +kernel)
  have h12 := hx2 _ _ h12
  have h13 := hx2 _ _ h13
  refine lv_goto (pc := 1175) (tgt := 1372) hC.1 hC.2.1 (zd_law19 (1175, .goto 197, 3, 0, []) (List.mem_of_getElem? (i := 19) rfl)) (by decide) ?_
  exact kk P2 F2 H2 locs2 hI2 h12 h13 hR
/-- case 34 -/
theorem zl_c34 {p : Program} {l : Launch} {e : Env} {s : State} {m : MethodId} {args : Array Value} {below : List Frame} {meth : Method} {c : Code} {Q : State → Prop} {w : zk_W} {b L : Nat} {xs : Nat → Int32} (hC : zl_C p s m args c w b L xs) {xa ma j : Nat} (hj : 6 * j + 5 < L) {P : Nat → Option Nat} {F : Nat → va_E} {H : Heap} {locs : List Loc} {cu su : Nat} {ls : Array Slot} (hl : lv_has ls 4 [(0, .ref b), (1, .ref xa), (2, .ref ma), (3, .int (nI (6 * j)))]) (hI : zl_I w s P F H locs) (h12 : P xa = some 12) (h13 : P ma = some 13) (hR : zl_R xa ma P (zp_n F)) (hf : cu + 16 ≤ 600000 ∧ su + 940 ≤ 7302250) (kk : ∀ (P' : Nat → Option Nat) (F' : Nat → va_E) (H' : Heap) (locs' : List Loc), zl_I w s P' F' H' locs' → P' xa = some 12 → P' ma = some 13 → zl_R xa ma P' (zp_n F') → W p l e room_1 s m args below meth c H' locs' (cu + 16) (su + 940) Q (F0 m 1372 ls [])) : W p l e room_1 s m args below meth c H locs cu su Q (F0 m 1178 ls []) := by
  have hW : zh_W w := hC.2.2.2.2.2.2.2.2.1
  have hl0 := lv_at hl 0 rfl
  have hl1 := lv_at hl 1 rfl
  have hl2 := lv_at hl 2 rfl
  have hl3 := lv_at hl 3 rfl
  refine zl_this (pc := 1178) (k := 1) (i := 1) (a := xa) hC (zd_law19 (1178, .aload_n 1, 1, 0, []) (List.mem_of_getElem? (i := 20) rfl)) rfl hl1 ?_
  refine zl_arg (pc := 1179) (j := j) (k := 1) (n := 1) hC hI (by omega) (by decide) hl0 hl3 (zd_law19 (1179, .aload_n 0, 1, 0, []) (List.mem_of_getElem? (i := 21) rfl)) (zd_law19 (1180, .iload_n 3, 1, 0, []) (List.mem_of_getElem? (i := 22) rfl)) (zd_law19 (1181, .iconst 1, 1, 0, []) (List.mem_of_getElem? (i := 23) rfl)) (zd_law19 (1182, .iadd, 1, 0, []) (List.mem_of_getElem? (i := 24) rfl)) (zd_law19 (1183, .iaload, 1, 0, []) (List.mem_of_getElem? (i := 25) rfl)) ?_
  refine zl_arg (pc := 1184) (j := j) (k := 2) (n := 2) hC hI (by omega) (by decide) hl0 hl3 (zd_law19 (1184, .aload_n 0, 1, 0, []) (List.mem_of_getElem? (i := 26) rfl)) (zd_law19 (1185, .iload_n 3, 1, 0, []) (List.mem_of_getElem? (i := 27) rfl)) (zd_law19 (1186, .iconst 2, 1, 0, []) (List.mem_of_getElem? (i := 28) rfl)) (zd_law19 (1187, .iadd, 1, 0, []) (List.mem_of_getElem? (i := 29) rfl)) (zd_law19 (1188, .iaload, 1, 0, []) (List.mem_of_getElem? (i := 30) rfl)) ?_
  refine zl_callp (pc := 1189) (how := 0) (idx := 155) (mi := 160) (mcm := 16) (msm := 940) (pl := [1238, 115, 1239, 1240]) hC (zp_plain (zq_279 hW)) (by decide +kernel) rfl (by decide +kernel) (zd_law19 (1189, .invokevirtual 155, 3, 0, []) (List.mem_of_getElem? (i := 31) rfl)) (zd_law19 (1192, .pop, 1, 0, []) (List.mem_of_getElem? (i := 32) rfl)) hI [(xa : Int), zl_y xs j 1, zl_y xs j 2] rfl ⟨zp_o2 h12, zl_yo, zl_yo, trivial⟩ trivial hl.1 hf (fun al1 hal1 rn1 P1 F1 H1 locs1 hx1 hI1 hfr1 hok1 hcs1 hB1 => ?_)
  have hR := zl_Rfr hR h12 h13 hx1 hfr1 (by decide +kernel)
  have h12 := hx1 _ _ h12
  have h13 := hx1 _ _ h13
  refine zl_this (pc := 1193) (k := 2) (i := 2) (a := ma) hC (zd_law19 (1193, .aload_n 2, 1, 0, []) (List.mem_of_getElem? (i := 33) rfl)) rfl hl2 ?_
  refine zl_arg (pc := 1194) (j := j) (k := 1) (n := 1) hC hI1 (by omega) (by decide) hl0 hl3 (zd_law19 (1194, .aload_n 0, 1, 0, []) (List.mem_of_getElem? (i := 34) rfl)) (zd_law19 (1195, .iload_n 3, 1, 0, []) (List.mem_of_getElem? (i := 35) rfl)) (zd_law19 (1196, .iconst 1, 1, 0, []) (List.mem_of_getElem? (i := 36) rfl)) (zd_law19 (1197, .iadd, 1, 0, []) (List.mem_of_getElem? (i := 37) rfl)) (zd_law19 (1198, .iaload, 1, 0, []) (List.mem_of_getElem? (i := 38) rfl)) ?_
  refine zl_arg (pc := 1199) (j := j) (k := 2) (n := 2) hC hI1 (by omega) (by decide) hl0 hl3 (zd_law19 (1199, .aload_n 0, 1, 0, []) (List.mem_of_getElem? (i := 39) rfl)) (zd_law20 (1200, .iload_n 3, 1, 0, []) (List.mem_of_getElem? (i := 0) rfl)) (zd_law20 (1201, .iconst 2, 1, 0, []) (List.mem_of_getElem? (i := 1) rfl)) (zd_law20 (1202, .iadd, 1, 0, []) (List.mem_of_getElem? (i := 2) rfl)) (zd_law20 (1203, .iaload, 1, 0, []) (List.mem_of_getElem? (i := 3) rfl)) ?_
  refine zl_callp (pc := 1204) (how := 0) (idx := 158) (mi := 271) (mcm := 0) (msm := 0) (pl := [1934, 128, 1935, 1936]) hC (zX_rd hW) (by decide +kernel) rfl (by decide +kernel) (zd_law20 (1204, .invokevirtual 158, 3, 0, []) (List.mem_of_getElem? (i := 4) rfl)) (zd_law20 (1207, .pop, 1, 0, []) (List.mem_of_getElem? (i := 5) rfl)) hI1 [(ma : Int), zl_y xs j 1, zl_y xs j 2] rfl ⟨zp_o2 h13, zl_yo, zl_yo, trivial⟩ trivial hl.1 hf (fun al2 hal2 rn2 P2 F2 H2 locs2 hx2 hI2 hfr2 hok2 hcs2 hB2 => ?_)
  have hR := zl_Rfr hR h12 h13 hx2 hfr2 (by decide +kernel)
  have h12 := hx2 _ _ h12
  have h13 := hx2 _ _ h13
  refine lv_goto (pc := 1208) (tgt := 1372) hC.1 hC.2.1 (zd_law20 (1208, .goto 164, 3, 0, []) (List.mem_of_getElem? (i := 6) rfl)) (by decide) ?_
  exact kk P2 F2 H2 locs2 hI2 h12 h13 hR
/-- case 35 -/
theorem zl_c35 {p : Program} {l : Launch} {e : Env} {s : State} {m : MethodId} {args : Array Value} {below : List Frame} {meth : Method} {c : Code} {Q : State → Prop} {w : zk_W} {b L : Nat} {xs : Nat → Int32} (hC : zl_C p s m args c w b L xs) {xa ma j : Nat} (hj : 6 * j + 5 < L) {P : Nat → Option Nat} {F : Nat → va_E} {H : Heap} {locs : List Loc} {cu su : Nat} {ls : Array Slot} (hl : lv_has ls 4 [(0, .ref b), (1, .ref xa), (2, .ref ma), (3, .int (nI (6 * j)))]) (hI : zl_I w s P F H locs) (h12 : P xa = some 12) (h13 : P ma = some 13) (hR : zl_R xa ma P (zp_n F)) (hf : cu + 16 ≤ 600000 ∧ su + 940 ≤ 7302250) (kk : ∀ (P' : Nat → Option Nat) (F' : Nat → va_E) (H' : Heap) (locs' : List Loc), zl_I w s P' F' H' locs' → P' xa = some 12 → P' ma = some 13 → zl_R xa ma P' (zp_n F') → W p l e room_1 s m args below meth c H' locs' (cu + 16) (su + 940) Q (F0 m 1372 ls [])) : W p l e room_1 s m args below meth c H locs cu su Q (F0 m 1211 ls []) := by
  have hW : zh_W w := hC.2.2.2.2.2.2.2.2.1
  have hl0 := lv_at hl 0 rfl
  have hl1 := lv_at hl 1 rfl
  have hl2 := lv_at hl 2 rfl
  have hl3 := lv_at hl 3 rfl
  refine zl_this (pc := 1211) (k := 1) (i := 1) (a := xa) hC (zd_law20 (1211, .aload_n 1, 1, 0, []) (List.mem_of_getElem? (i := 7) rfl)) rfl hl1 ?_
  refine zl_arg (pc := 1212) (j := j) (k := 1) (n := 1) hC hI (by omega) (by decide) hl0 hl3 (zd_law20 (1212, .aload_n 0, 1, 0, []) (List.mem_of_getElem? (i := 8) rfl)) (zd_law20 (1213, .iload_n 3, 1, 0, []) (List.mem_of_getElem? (i := 9) rfl)) (zd_law20 (1214, .iconst 1, 1, 0, []) (List.mem_of_getElem? (i := 10) rfl)) (zd_law20 (1215, .iadd, 1, 0, []) (List.mem_of_getElem? (i := 11) rfl)) (zd_law20 (1216, .iaload, 1, 0, []) (List.mem_of_getElem? (i := 12) rfl)) ?_
  refine zl_callp (pc := 1217) (how := 0) (idx := 159) (mi := 169) (mcm := 16) (msm := 940) (pl := [1277, 115, 1278, 1279]) hC (zX_gt hW) (by decide +kernel) rfl (by decide +kernel) (zd_law20 (1217, .invokevirtual 159, 3, 0, []) (List.mem_of_getElem? (i := 13) rfl)) (zd_law20 (1220, .pop, 1, 0, []) (List.mem_of_getElem? (i := 14) rfl)) hI [(xa : Int), zl_y xs j 1] rfl ⟨zp_o2 h12, zl_yo, trivial⟩ trivial hl.1 hf (fun al1 hal1 rn1 P1 F1 H1 locs1 hx1 hI1 hfr1 hok1 hcs1 hB1 => ?_)
  have hR := zl_Rfr hR h12 h13 hx1 hfr1 (by decide +kernel)
  have h12 := hx1 _ _ h12
  have h13 := hx1 _ _ h13
  refine zl_this (pc := 1221) (k := 2) (i := 2) (a := ma) hC (zd_law20 (1221, .aload_n 2, 1, 0, []) (List.mem_of_getElem? (i := 15) rfl)) rfl hl2 ?_
  refine zl_arg (pc := 1222) (j := j) (k := 1) (n := 1) hC hI1 (by omega) (by decide) hl0 hl3 (zd_law20 (1222, .aload_n 0, 1, 0, []) (List.mem_of_getElem? (i := 16) rfl)) (zd_law20 (1223, .iload_n 3, 1, 0, []) (List.mem_of_getElem? (i := 17) rfl)) (zd_law20 (1224, .iconst 1, 1, 0, []) (List.mem_of_getElem? (i := 18) rfl)) (zd_law20 (1225, .iadd, 1, 0, []) (List.mem_of_getElem? (i := 19) rfl)) (zd_law20 (1226, .iaload, 1, 0, []) (List.mem_of_getElem? (i := 20) rfl)) ?_
  refine zl_callp (pc := 1227) (how := 0) (idx := 162) (mi := 274) (mcm := 0) (msm := 0) (pl := [1947, 128, 1948, 1949]) hC (zX_gm hW) (by decide +kernel) rfl (by decide +kernel) (zd_law20 (1227, .invokevirtual 162, 3, 0, []) (List.mem_of_getElem? (i := 21) rfl)) (zd_law20 (1230, .pop, 1, 0, []) (List.mem_of_getElem? (i := 22) rfl)) hI1 [(ma : Int), zl_y xs j 1] rfl ⟨zp_o2 h13, zl_yo, trivial⟩ trivial hl.1 hf (fun al2 hal2 rn2 P2 F2 H2 locs2 hx2 hI2 hfr2 hok2 hcs2 hB2 => ?_)
  have hR := zl_Rfr hR h12 h13 hx2 hfr2 (by decide +kernel)
  have h12 := hx2 _ _ h12
  have h13 := hx2 _ _ h13
  refine lv_goto (pc := 1231) (tgt := 1372) hC.1 hC.2.1 (zd_law20 (1231, .goto 141, 3, 0, []) (List.mem_of_getElem? (i := 23) rfl)) (by decide) ?_
  exact kk P2 F2 H2 locs2 hI2 h12 h13 hR
/-- case 36 -/
theorem zl_c36 {p : Program} {l : Launch} {e : Env} {s : State} {m : MethodId} {args : Array Value} {below : List Frame} {meth : Method} {c : Code} {Q : State → Prop} {w : zk_W} {b L : Nat} {xs : Nat → Int32} (hC : zl_C p s m args c w b L xs) {xa ma j : Nat} (hj : 6 * j + 5 < L) {P : Nat → Option Nat} {F : Nat → va_E} {H : Heap} {locs : List Loc} {cu su : Nat} {ls : Array Slot} (hl : lv_has ls 4 [(0, .ref b), (1, .ref xa), (2, .ref ma), (3, .int (nI (6 * j)))]) (hI : zl_I w s P F H locs) (h12 : P xa = some 12) (h13 : P ma = some 13) (hR : zl_R xa ma P (zp_n F)) (hf : cu + 16 ≤ 600000 ∧ su + 940 ≤ 7302250) (kk : ∀ (P' : Nat → Option Nat) (F' : Nat → va_E) (H' : Heap) (locs' : List Loc), zl_I w s P' F' H' locs' → P' xa = some 12 → P' ma = some 13 → zl_R xa ma P' (zp_n F') → W p l e room_1 s m args below meth c H' locs' (cu + 16) (su + 940) Q (F0 m 1372 ls [])) : W p l e room_1 s m args below meth c H locs cu su Q (F0 m 1234 ls []) := by
  have hW : zh_W w := hC.2.2.2.2.2.2.2.2.1
  have hl0 := lv_at hl 0 rfl
  have hl1 := lv_at hl 1 rfl
  have hl2 := lv_at hl 2 rfl
  have hl3 := lv_at hl 3 rfl
  refine zl_this (pc := 1234) (k := 1) (i := 1) (a := xa) hC (zd_law20 (1234, .aload_n 1, 1, 0, []) (List.mem_of_getElem? (i := 24) rfl)) rfl hl1 ?_
  refine zl_arg (pc := 1235) (j := j) (k := 1) (n := 1) hC hI (by omega) (by decide) hl0 hl3 (zd_law20 (1235, .aload_n 0, 1, 0, []) (List.mem_of_getElem? (i := 25) rfl)) (zd_law20 (1236, .iload_n 3, 1, 0, []) (List.mem_of_getElem? (i := 26) rfl)) (zd_law20 (1237, .iconst 1, 1, 0, []) (List.mem_of_getElem? (i := 27) rfl)) (zd_law20 (1238, .iadd, 1, 0, []) (List.mem_of_getElem? (i := 28) rfl)) (zd_law20 (1239, .iaload, 1, 0, []) (List.mem_of_getElem? (i := 29) rfl)) ?_
  refine zl_arg (pc := 1240) (j := j) (k := 2) (n := 2) hC hI (by omega) (by decide) hl0 hl3 (zd_law20 (1240, .aload_n 0, 1, 0, []) (List.mem_of_getElem? (i := 30) rfl)) (zd_law20 (1241, .iload_n 3, 1, 0, []) (List.mem_of_getElem? (i := 31) rfl)) (zd_law20 (1242, .iconst 2, 1, 0, []) (List.mem_of_getElem? (i := 32) rfl)) (zd_law20 (1243, .iadd, 1, 0, []) (List.mem_of_getElem? (i := 33) rfl)) (zd_law20 (1244, .iaload, 1, 0, []) (List.mem_of_getElem? (i := 34) rfl)) ?_
  refine zl_callp (pc := 1245) (how := 0) (idx := 163) (mi := 170) (mcm := 16) (msm := 940) (pl := [1281, 115, 1282, 1283]) hC (zp_plain (zq_284 hW)) (by decide +kernel) rfl (by decide +kernel) (zd_law20 (1245, .invokevirtual 163, 3, 0, []) (List.mem_of_getElem? (i := 35) rfl)) (zd_law20 (1248, .pop, 1, 0, []) (List.mem_of_getElem? (i := 36) rfl)) hI [(xa : Int), zl_y xs j 1, zl_y xs j 2] rfl ⟨zp_o2 h12, zl_yo, zl_yo, trivial⟩ trivial hl.1 hf (fun al1 hal1 rn1 P1 F1 H1 locs1 hx1 hI1 hfr1 hok1 hcs1 hB1 => ?_)
  have hR := zl_Rfr hR h12 h13 hx1 hfr1 (by decide +kernel)
  have h12 := hx1 _ _ h12
  have h13 := hx1 _ _ h13
  refine zl_this (pc := 1249) (k := 2) (i := 2) (a := ma) hC (zd_law20 (1249, .aload_n 2, 1, 0, []) (List.mem_of_getElem? (i := 37) rfl)) rfl hl2 ?_
  refine zl_arg (pc := 1250) (j := j) (k := 1) (n := 1) hC hI1 (by omega) (by decide) hl0 hl3 (zd_law20 (1250, .aload_n 0, 1, 0, []) (List.mem_of_getElem? (i := 38) rfl)) (zd_law20 (1251, .iload_n 3, 1, 0, []) (List.mem_of_getElem? (i := 39) rfl)) (zd_law21 (1252, .iconst 1, 1, 0, []) (List.mem_of_getElem? (i := 0) rfl)) (zd_law21 (1253, .iadd, 1, 0, []) (List.mem_of_getElem? (i := 1) rfl)) (zd_law21 (1254, .iaload, 1, 0, []) (List.mem_of_getElem? (i := 2) rfl)) ?_
  refine zl_arg (pc := 1255) (j := j) (k := 2) (n := 2) hC hI1 (by omega) (by decide) hl0 hl3 (zd_law21 (1255, .aload_n 0, 1, 0, []) (List.mem_of_getElem? (i := 3) rfl)) (zd_law21 (1256, .iload_n 3, 1, 0, []) (List.mem_of_getElem? (i := 4) rfl)) (zd_law21 (1257, .iconst 2, 1, 0, []) (List.mem_of_getElem? (i := 5) rfl)) (zd_law21 (1258, .iadd, 1, 0, []) (List.mem_of_getElem? (i := 6) rfl)) (zd_law21 (1259, .iaload, 1, 0, []) (List.mem_of_getElem? (i := 7) rfl)) ?_
  refine zl_callp (pc := 1260) (how := 0) (idx := 166) (mi := 294) (mcm := 0) (msm := 0) (pl := [2034, 128, 2035, 2036]) hC (zp_plain (zq_1136 hW)) (by decide +kernel) rfl (by decide +kernel) (zd_law21 (1260, .invokevirtual 166, 3, 0, []) (List.mem_of_getElem? (i := 8) rfl)) (zd_law21 (1263, .pop, 1, 0, []) (List.mem_of_getElem? (i := 9) rfl)) hI1 [(ma : Int), zl_y xs j 1, zl_y xs j 2] rfl ⟨zp_o2 h13, zl_yo, zl_yo, trivial⟩ trivial hl.1 hf (fun al2 hal2 rn2 P2 F2 H2 locs2 hx2 hI2 hfr2 hok2 hcs2 hB2 => ?_)
  have hR := zl_Rfr hR h12 h13 hx2 hfr2 (by decide +kernel)
  have h12 := hx2 _ _ h12
  have h13 := hx2 _ _ h13
  refine lv_goto (pc := 1264) (tgt := 1372) hC.1 hC.2.1 (zd_law21 (1264, .goto 108, 3, 0, []) (List.mem_of_getElem? (i := 10) rfl)) (by decide) ?_
  exact kk P2 F2 H2 locs2 hI2 h12 h13 hR
/-- case 37 -/
theorem zl_c37 {p : Program} {l : Launch} {e : Env} {s : State} {m : MethodId} {args : Array Value} {below : List Frame} {meth : Method} {c : Code} {Q : State → Prop} {w : zk_W} {b L : Nat} {xs : Nat → Int32} (hC : zl_C p s m args c w b L xs) {xa ma j : Nat} (hj : 6 * j + 5 < L) {P : Nat → Option Nat} {F : Nat → va_E} {H : Heap} {locs : List Loc} {cu su : Nat} {ls : Array Slot} (hl : lv_has ls 4 [(0, .ref b), (1, .ref xa), (2, .ref ma), (3, .int (nI (6 * j)))]) (hI : zl_I w s P F H locs) (h12 : P xa = some 12) (h13 : P ma = some 13) (hR : zl_R xa ma P (zp_n F)) (hf : cu + 16 ≤ 600000 ∧ su + 940 ≤ 7302250) (kk : ∀ (P' : Nat → Option Nat) (F' : Nat → va_E) (H' : Heap) (locs' : List Loc), zl_I w s P' F' H' locs' → P' xa = some 12 → P' ma = some 13 → zl_R xa ma P' (zp_n F') → W p l e room_1 s m args below meth c H' locs' (cu + 16) (su + 940) Q (F0 m 1372 ls [])) : W p l e room_1 s m args below meth c H locs cu su Q (F0 m 1267 ls []) := by
  have hW : zh_W w := hC.2.2.2.2.2.2.2.2.1
  have hl0 := lv_at hl 0 rfl
  have hl1 := lv_at hl 1 rfl
  have hl2 := lv_at hl 2 rfl
  have hl3 := lv_at hl 3 rfl
  refine zl_this (pc := 1267) (k := 1) (i := 1) (a := xa) hC (zd_law21 (1267, .aload_n 1, 1, 0, []) (List.mem_of_getElem? (i := 11) rfl)) rfl hl1 ?_
  refine zl_arg (pc := 1268) (j := j) (k := 1) (n := 1) hC hI (by omega) (by decide) hl0 hl3 (zd_law21 (1268, .aload_n 0, 1, 0, []) (List.mem_of_getElem? (i := 12) rfl)) (zd_law21 (1269, .iload_n 3, 1, 0, []) (List.mem_of_getElem? (i := 13) rfl)) (zd_law21 (1270, .iconst 1, 1, 0, []) (List.mem_of_getElem? (i := 14) rfl)) (zd_law21 (1271, .iadd, 1, 0, []) (List.mem_of_getElem? (i := 15) rfl)) (zd_law21 (1272, .iaload, 1, 0, []) (List.mem_of_getElem? (i := 16) rfl)) ?_
  refine zl_callp (pc := 1273) (how := 0) (idx := 167) (mi := 174) (mcm := 16) (msm := 940) (pl := [1307, 115, 1308, 1309]) hC (zp_plain (zq_286 hW)) (by decide +kernel) rfl (by decide +kernel) (zd_law21 (1273, .invokevirtual 167, 3, 0, []) (List.mem_of_getElem? (i := 17) rfl)) (zd_law21 (1276, .pop, 1, 0, []) (List.mem_of_getElem? (i := 18) rfl)) hI [(xa : Int), zl_y xs j 1] rfl ⟨zp_o2 h12, zl_yo, trivial⟩ trivial hl.1 hf (fun al1 hal1 rn1 P1 F1 H1 locs1 hx1 hI1 hfr1 hok1 hcs1 hB1 => ?_)
  have hR := zl_Rfr hR h12 h13 hx1 hfr1 (by decide +kernel)
  have h12 := hx1 _ _ h12
  have h13 := hx1 _ _ h13
  refine zl_this (pc := 1277) (k := 2) (i := 2) (a := ma) hC (zd_law21 (1277, .aload_n 2, 1, 0, []) (List.mem_of_getElem? (i := 19) rfl)) rfl hl2 ?_
  refine zl_arg (pc := 1278) (j := j) (k := 1) (n := 1) hC hI1 (by omega) (by decide) hl0 hl3 (zd_law21 (1278, .aload_n 0, 1, 0, []) (List.mem_of_getElem? (i := 20) rfl)) (zd_law21 (1279, .iload_n 3, 1, 0, []) (List.mem_of_getElem? (i := 21) rfl)) (zd_law21 (1280, .iconst 1, 1, 0, []) (List.mem_of_getElem? (i := 22) rfl)) (zd_law21 (1281, .iadd, 1, 0, []) (List.mem_of_getElem? (i := 23) rfl)) (zd_law21 (1282, .iaload, 1, 0, []) (List.mem_of_getElem? (i := 24) rfl)) ?_
  refine zl_callp (pc := 1283) (how := 0) (idx := 170) (mi := 297) (mcm := 0) (msm := 0) (pl := [2049, 128, 2050, 2051]) hC (zp_plain (zq_1138 hW)) (by decide +kernel) rfl (by decide +kernel) (zd_law21 (1283, .invokevirtual 170, 3, 0, []) (List.mem_of_getElem? (i := 25) rfl)) (zd_law21 (1286, .pop, 1, 0, []) (List.mem_of_getElem? (i := 26) rfl)) hI1 [(ma : Int), zl_y xs j 1] rfl ⟨zp_o2 h13, zl_yo, trivial⟩ trivial hl.1 hf (fun al2 hal2 rn2 P2 F2 H2 locs2 hx2 hI2 hfr2 hok2 hcs2 hB2 => ?_)
  have hR := zl_Rfr hR h12 h13 hx2 hfr2 (by decide +kernel)
  have h12 := hx2 _ _ h12
  have h13 := hx2 _ _ h13
  refine lv_goto (pc := 1287) (tgt := 1372) hC.1 hC.2.1 (zd_law21 (1287, .goto 85, 3, 0, []) (List.mem_of_getElem? (i := 27) rfl)) (by decide) ?_
  exact kk P2 F2 H2 locs2 hI2 h12 h13 hR
/-- case 38 -/
theorem zl_c38 {p : Program} {l : Launch} {e : Env} {s : State} {m : MethodId} {args : Array Value} {below : List Frame} {meth : Method} {c : Code} {Q : State → Prop} {w : zk_W} {b L : Nat} {xs : Nat → Int32} (hC : zl_C p s m args c w b L xs) {xa ma j : Nat} (hj : 6 * j + 5 < L) {P : Nat → Option Nat} {F : Nat → va_E} {H : Heap} {locs : List Loc} {cu su : Nat} {ls : Array Slot} (hl : lv_has ls 4 [(0, .ref b), (1, .ref xa), (2, .ref ma), (3, .int (nI (6 * j)))]) (hI : zl_I w s P F H locs) (h12 : P xa = some 12) (h13 : P ma = some 13) (hR : zl_R xa ma P (zp_n F)) (hf : cu + 16 ≤ 600000 ∧ su + 940 ≤ 7302250) (kk : ∀ (P' : Nat → Option Nat) (F' : Nat → va_E) (H' : Heap) (locs' : List Loc), zl_I w s P' F' H' locs' → P' xa = some 12 → P' ma = some 13 → zl_R xa ma P' (zp_n F') → W p l e room_1 s m args below meth c H' locs' (cu + 16) (su + 940) Q (F0 m 1372 ls [])) : W p l e room_1 s m args below meth c H locs cu su Q (F0 m 1290 ls []) := by
  have hW : zh_W w := hC.2.2.2.2.2.2.2.2.1
  have hl0 := lv_at hl 0 rfl
  have hl1 := lv_at hl 1 rfl
  have hl2 := lv_at hl 2 rfl
  have hl3 := lv_at hl 3 rfl
  refine zl_this (pc := 1290) (k := 1) (i := 1) (a := xa) hC (zd_law21 (1290, .aload_n 1, 1, 0, []) (List.mem_of_getElem? (i := 28) rfl)) rfl hl1 ?_
  refine zl_arg (pc := 1291) (j := j) (k := 1) (n := 1) hC hI (by omega) (by decide) hl0 hl3 (zd_law21 (1291, .aload_n 0, 1, 0, []) (List.mem_of_getElem? (i := 29) rfl)) (zd_law21 (1292, .iload_n 3, 1, 0, []) (List.mem_of_getElem? (i := 30) rfl)) (zd_law21 (1293, .iconst 1, 1, 0, []) (List.mem_of_getElem? (i := 31) rfl)) (zd_law21 (1294, .iadd, 1, 0, []) (List.mem_of_getElem? (i := 32) rfl)) (zd_law21 (1295, .iaload, 1, 0, []) (List.mem_of_getElem? (i := 33) rfl)) ?_
  refine zl_callp (pc := 1296) (how := 0) (idx := 171) (mi := 176) (mcm := 16) (msm := 940) (pl := [1315, 115, 1316, 1317]) hC (zX_im5 hW) (by decide +kernel) rfl (by decide +kernel) (zd_law21 (1296, .invokevirtual 171, 3, 0, []) (List.mem_of_getElem? (i := 34) rfl)) (zd_law21 (1299, .pop, 1, 0, []) (List.mem_of_getElem? (i := 35) rfl)) hI [(xa : Int), zl_y xs j 1] rfl ⟨zp_o2 h12, zl_yo, trivial⟩ trivial hl.1 hf (fun al1 hal1 rn1 P1 F1 H1 locs1 hx1 hI1 hfr1 hok1 hcs1 hB1 => ?_)
  obtain ⟨tn, im, tp, tb, rw_, ri, kp, mt, hS, hc, hd, ht, hi⟩ := hR
  have hS1 := zl_Sfr hS h12 h13 hx1 hfr1 (by decide +kernel)
  have hc1 := zl_cfr hS hc hfr1 (by decide +kernel)
  have hd1 := zl_dfr h12 h13 hd hfr1 (by decide +kernel)
  have ht1 := zl_tfr hS h13 ht hfr1 (by decide +kernel)
  have b1 := hB1 im tn hS.2.1.1 hS.2.1.2 hS.1.1 hS.1.2
  have b1 : (¬ (0 ≤ zl_y xs j 1 ∧ zl_y xs j 1 ≤ 1) → (∀ j, j < 2 → zp_n F1 im (2000 + j) = zp_n F im (2000 + j)) ∧ ∀ x, P x = some 93 → ∀ k, zI_f k → zp_n F1 x k = zp_n F x k) ∧ (∀ q : Nat, q < 2 → zl_y xs j 1 = (q : Int) → ∃ z : Nat, zp_n F1 im (2000 + q) = (z : Int) ∧ P1 z = some 93 ∧ (0 ≤ zp_n F im (2000 + q) → zp_n F im (2000 + q) = (z : Int)) ∧ (zp_n F im (2000 + q) < 0 → P z = none) ∧ (∀ j, j < 2 → j ≠ q → zp_n F1 im (2000 + j) = zp_n F im (2000 + j)) ∧ (∀ k, zI_f k → zp_n F1 z k = zp_n F tn k) ∧ ∀ x, P x = some 93 → x ≠ z → ∀ k, zI_f k → zp_n F1 x k = zp_n F x k) := b1
  have m61 : ∀ k, zp_n F1 kp k = zp_n F kp k := fun k => zp_nc hfr1 hS.2.2.2.2.2.2.1.2 (by decide +kernel) k
  have m60 : ∀ k, zp_n F1 ri k = zp_n F ri k := fun k => zp_nc hfr1 hS.2.2.2.2.2.1.2 (by decide +kernel) k
  have m59 : ∀ k, zp_n F1 rw_ k = zp_n F rw_ k := fun k => zp_nc hfr1 hS.2.2.2.2.1.2 (by decide +kernel) k
  have hx1o := hx1
  have h12 := hx1 _ _ h12
  have h13 := hx1 _ _ h13
  refine zl_this (pc := 1300) (k := 2) (i := 2) (a := ma) hC (zd_law21 (1300, .aload_n 2, 1, 0, []) (List.mem_of_getElem? (i := 36) rfl)) rfl hl2 ?_
  refine zl_arg (pc := 1301) (j := j) (k := 1) (n := 1) hC hI1 (by omega) (by decide) hl0 hl3 (zd_law21 (1301, .aload_n 0, 1, 0, []) (List.mem_of_getElem? (i := 37) rfl)) (zd_law21 (1302, .iload_n 3, 1, 0, []) (List.mem_of_getElem? (i := 38) rfl)) (zd_law21 (1303, .iconst 1, 1, 0, []) (List.mem_of_getElem? (i := 39) rfl)) (zd_law22 (1304, .iadd, 1, 0, []) (List.mem_of_getElem? (i := 0) rfl)) (zd_law22 (1305, .iaload, 1, 0, []) (List.mem_of_getElem? (i := 1) rfl)) ?_
  refine zl_callp (pc := 1306) (how := 0) (idx := 174) (mi := 185) (mcm := 0) (msm := 0) (pl := [1566, 128, 1567, 1568]) hC (zX_im6 hW) (by decide +kernel) rfl (by decide +kernel) (zd_law22 (1306, .invokevirtual 174, 3, 0, []) (List.mem_of_getElem? (i := 2) rfl)) (zd_law22 (1309, .pop, 1, 0, []) (List.mem_of_getElem? (i := 3) rfl)) hI1 [(ma : Int), zl_y xs j 1] rfl ⟨zp_o2 h13, zl_yo, trivial⟩ trivial hl.1 hf (fun al2 hal2 rn2 P2 F2 H2 locs2 hx2 hI2 hfr2 hok2 hcs2 hB2 => ?_)
  have hS2 := zl_Sfr hS1 h12 h13 hx2 hfr2 (by decide +kernel)
  have hc2 := zl_cfr hS1 hc1 hfr2 (by decide +kernel)
  have hd2 := zl_dfr h12 h13 hd1 hfr2 (by decide +kernel)
  have ht2 := zl_tfr hS1 h13 ht1 hfr2 (by decide +kernel)
  have b2 := hB2.2 kp ri rw_ hS1.2.2.2.2.2.2.1.1 hS1.2.2.2.2.2.1.1 hS1.2.2.2.2.1.1
  have b2 : (∀ j : Nat, j < 2 → ((j : Int) ≠ zl_y xs j 1 → zp_n F2 kp (2000 + j) = zp_n F1 kp (2000 + j)) ∧ ((j : Int) = zl_y xs j 1 → zp_n F2 kp (2000 + j) = 1)) ∧ ∀ q : Nat, q < 2 → ∀ i : Nat, i < 3 → ((q : Int) ≠ zl_y xs j 1 → zp_n F2 ri (2000 + (5580 * q + i)) = zp_n F1 ri (2000 + (5580 * q + i))) ∧ ((q : Int) = zl_y xs j 1 → zp_n F2 ri (2000 + (5580 * q + i)) = zp_n F1 rw_ (2000 + i)) := b2
  obtain ⟨b2a, b2b⟩ := b2
  have n55 : ∀ k, zp_n F2 im k = zp_n F1 im k := fun k => zp_nc hfr2 hS1.2.1.2 (by decide +kernel) k
  obtain ⟨i1, i2, i3⟩ := hi
  have nz : ∀ z k, P1 z = some 93 → zI_f k → zp_n F2 z k = zp_n F1 z k := fun z k h hk => by
    rcases hk with rfl | rfl | rfl
    · exact zp_nf hfr2 h (by decide +kernel)
    · exact zp_nf hfr2 h (by decide +kernel)
    · exact zp_nf hfr2 h (by decide +kernel)
  have hi2 : zl_i im ri kp P2 (zp_n F2) := by
    by_cases hy : 0 ≤ zl_y xs j 1 ∧ zl_y xs j 1 ≤ 1
    · obtain ⟨q, hyq⟩ : ∃ q : Nat, zl_y xs j 1 = (q : Int) := zp_nat hy.1
      have hq2 : q < 2 := by omega
      obtain ⟨z, z1, z2, z3, z4, z5, z6, z7⟩ := b1.2 q hq2 hyq
      have hne : ∀ k z' : Nat, k < 2 → k ≠ q → zp_n F im (2000 + k) = (z' : Int) → z' ≠ z := fun k z' hk hkq e => by
        rintro rfl
        by_cases hn : zp_n F im (2000 + q) < 0
        · have g1 := (i2 k z' hk e).1
          rw [z4 hn] at g1
          cases g1
        · have g1 := z3 (Int.not_lt.mp hn)
          obtain ⟨rfl, rfl⟩ | ⟨rfl, rfl⟩ : (k = 0 ∧ q = 1) ∨ (k = 1 ∧ q = 0) := by omega
          · exact i3 _ e g1
          · exact i3 _ g1 e
      refine ⟨fun k hk => ?_, fun k z' hk hz => ?_, fun z' hz0 hz1 => ?_⟩
      · by_cases hkq : k = q
        · subst hkq
          rw [n55, z1, (b2a k hk).2 hyq.symm]
          exact ⟨fun _ => by decide, fun _ => by omega⟩
        · rw [n55, z5 k hk hkq, (b2a k hk).1 (by omega), m61]
          exact i1 k hk
      · rw [n55] at hz
        by_cases hkq : k = q
        · subst hkq
          obtain rfl : z = z' := by omega
          refine ⟨hx2 _ _ z2, ?_, ?_, ?_⟩
          · rw [nz z 1 z2 (Or.inl rfl), z6 1 (Or.inl rfl), (b2b k hk 0 (by decide)).2 hyq.symm, m59]
            exact hc.1
          · rw [nz z 3 z2 (Or.inr (Or.inl rfl)), z6 3 (Or.inr (Or.inl rfl)), (b2b k hk 1 (by decide)).2 hyq.symm, m59]
            exact hc.2.1
          · rw [nz z 9 z2 (Or.inr (Or.inr rfl)), z6 9 (Or.inr (Or.inr rfl)), (b2b k hk 2 (by decide)).2 hyq.symm, m59]
            exact hc.2.2
        · rw [z5 k hk hkq] at hz
          have hnz := hne k z' hk hkq hz
          obtain ⟨g0, g1, g2, g3⟩ := i2 k z' hk hz
          have g9 := hx1o _ _ g0
          refine ⟨hx2 _ _ g9, ?_, ?_, ?_⟩
          · rw [nz z' 1 g9 (Or.inl rfl), z7 z' g0 hnz 1 (Or.inl rfl), (b2b k hk 0 (by decide)).1 (by omega), m60]
            exact g1
          · rw [nz z' 3 g9 (Or.inr (Or.inl rfl)), z7 z' g0 hnz 3 (Or.inr (Or.inl rfl)), (b2b k hk 1 (by decide)).1 (by omega), m60]
            exact g2
          · rw [nz z' 9 g9 (Or.inr (Or.inr rfl)), z7 z' g0 hnz 9 (Or.inr (Or.inr rfl)), (b2b k hk 2 (by decide)).1 (by omega), m60]
            exact g3
      · rw [n55] at hz0 hz1
        obtain rfl | rfl : q = 0 ∨ q = 1 := by omega
        · rw [z5 1 (by decide) (by decide)] at hz1
          exact hne 1 z' (by decide) (by decide) hz1 (by omega)
        · rw [z5 0 (by decide) (by decide)] at hz0
          exact hne 0 z' (by decide) (by decide) hz0 (by omega)
    · obtain ⟨a1, a2⟩ := b1.1 hy
      refine ⟨fun k hk => ?_, fun k z' hk hz => ?_, fun z' hz0 hz1 => ?_⟩
      · rw [n55, a1 k hk, (b2a k hk).1 (by omega), m61]
        exact i1 k hk
      · rw [n55, a1 k hk] at hz
        obtain ⟨g0, g1, g2, g3⟩ := i2 k z' hk hz
        have g9 := hx1o _ _ g0
        refine ⟨hx2 _ _ g9, ?_, ?_, ?_⟩
        · rw [nz z' 1 g9 (Or.inl rfl), a2 z' g0 1 (Or.inl rfl), (b2b k hk 0 (by decide)).1 (by omega), m60]
          exact g1
        · rw [nz z' 3 g9 (Or.inr (Or.inl rfl)), a2 z' g0 3 (Or.inr (Or.inl rfl)), (b2b k hk 1 (by decide)).1 (by omega), m60]
          exact g2
        · rw [nz z' 9 g9 (Or.inr (Or.inr rfl)), a2 z' g0 9 (Or.inr (Or.inr rfl)), (b2b k hk 2 (by decide)).1 (by omega), m60]
          exact g3
      · rw [n55, a1 0 (by decide)] at hz0
        rw [n55, a1 1 (by decide)] at hz1
        exact i3 z' hz0 hz1
  have hR : zl_R xa ma P2 (zp_n F2) := ⟨tn, im, tp, tb, rw_, ri, kp, mt, hS2, hc2, hd2, ht2, hi2⟩
  have h12 := hx2 _ _ h12
  have h13 := hx2 _ _ h13
  refine lv_goto (pc := 1310) (tgt := 1372) hC.1 hC.2.1 (zd_law22 (1310, .goto 62, 3, 0, []) (List.mem_of_getElem? (i := 4) rfl)) (by decide) ?_
  exact kk P2 F2 H2 locs2 hI2 h12 h13 hR
/-- case 39 -/
theorem zl_c39 {p : Program} {l : Launch} {e : Env} {s : State} {m : MethodId} {args : Array Value} {below : List Frame} {meth : Method} {c : Code} {Q : State → Prop} {w : zk_W} {b L : Nat} {xs : Nat → Int32} (hC : zl_C p s m args c w b L xs) {xa ma j : Nat} (hj : 6 * j + 5 < L) {P : Nat → Option Nat} {F : Nat → va_E} {H : Heap} {locs : List Loc} {cu su : Nat} {ls : Array Slot} (hl : lv_has ls 4 [(0, .ref b), (1, .ref xa), (2, .ref ma), (3, .int (nI (6 * j)))]) (hI : zl_I w s P F H locs) (h12 : P xa = some 12) (h13 : P ma = some 13) (hR : zl_R xa ma P (zp_n F)) (hf : cu + 16 ≤ 600000 ∧ su + 940 ≤ 7302250) (kk : ∀ (P' : Nat → Option Nat) (F' : Nat → va_E) (H' : Heap) (locs' : List Loc), zl_I w s P' F' H' locs' → P' xa = some 12 → P' ma = some 13 → zl_R xa ma P' (zp_n F') → W p l e room_1 s m args below meth c H' locs' (cu + 16) (su + 940) Q (F0 m 1372 ls [])) : W p l e room_1 s m args below meth c H locs cu su Q (F0 m 1313 ls []) := by
  have hW : zh_W w := hC.2.2.2.2.2.2.2.2.1
  have hl0 := lv_at hl 0 rfl
  have hl1 := lv_at hl 1 rfl
  have hl2 := lv_at hl 2 rfl
  have hl3 := lv_at hl 3 rfl
  refine zl_this (pc := 1313) (k := 1) (i := 1) (a := xa) hC (zd_law22 (1313, .aload_n 1, 1, 0, []) (List.mem_of_getElem? (i := 5) rfl)) rfl hl1 ?_
  refine zl_arg (pc := 1314) (j := j) (k := 1) (n := 1) hC hI (by omega) (by decide) hl0 hl3 (zd_law22 (1314, .aload_n 0, 1, 0, []) (List.mem_of_getElem? (i := 6) rfl)) (zd_law22 (1315, .iload_n 3, 1, 0, []) (List.mem_of_getElem? (i := 7) rfl)) (zd_law22 (1316, .iconst 1, 1, 0, []) (List.mem_of_getElem? (i := 8) rfl)) (zd_law22 (1317, .iadd, 1, 0, []) (List.mem_of_getElem? (i := 9) rfl)) (zd_law22 (1318, .iaload, 1, 0, []) (List.mem_of_getElem? (i := 10) rfl)) ?_
  refine zl_callp (pc := 1319) (how := 0) (idx := 175) (mi := 178) (mcm := 16) (msm := 940) (pl := [1325, 115, 1326, 1327]) hC (zX_bk5 hW) (by decide +kernel) rfl (by decide +kernel) (zd_law22 (1319, .invokevirtual 175, 3, 0, []) (List.mem_of_getElem? (i := 11) rfl)) (zd_law22 (1322, .pop, 1, 0, []) (List.mem_of_getElem? (i := 12) rfl)) hI [(xa : Int), zl_y xs j 1] rfl ⟨zp_o2 h12, zl_yo, trivial⟩ trivial hl.1 hf (fun al1 hal1 rn1 P1 F1 H1 locs1 hx1 hI1 hfr1 hok1 hcs1 hB1 => ?_)
  obtain ⟨tn, im, tp, tb, rw_, ri, kp, mt, hS, hc, hd, ht, hi⟩ := hR
  have hS1 := zl_Sfr hS h12 h13 hx1 hfr1 (by decide +kernel)
  have hd1 := zl_dfr h12 h13 hd hfr1 (by decide +kernel)
  have ht1 := zl_tfr hS h13 ht hfr1 (by decide +kernel)
  have hi1 := zl_ifr hS hi hx1 hfr1 (by decide +kernel)
  have b1 := hB1 im tn hS.2.1.1 hS.2.1.2 hS.1.1 hS.1.2
  have b1 : (¬ (0 ≤ zl_y xs j 1 ∧ zl_y xs j 1 ≤ 1) → rn1 = -1 ∧ ∀ k, zI_f k → zp_n F1 tn k = zp_n F tn k) ∧ (∀ q : Nat, q < 2 → zl_y xs j 1 = (q : Int) → (zp_n F im (2000 + q) < 0 → rn1 = -2 ∧ ∀ k, zI_f k → zp_n F1 tn k = zp_n F tn k) ∧ (∀ z : Nat, zp_n F im (2000 + q) = (z : Int) → P z = some 93 ∧ rn1 = 0 ∧ ∀ k, zI_f k → zp_n F1 tn k = zp_n F z k)) := b1
  have m61 : ∀ k, zp_n F1 kp k = zp_n F kp k := fun k => zp_nc hfr1 hS.2.2.2.2.2.2.1.2 (by decide +kernel) k
  have m60 : ∀ k, zp_n F1 ri k = zp_n F ri k := fun k => zp_nc hfr1 hS.2.2.2.2.2.1.2 (by decide +kernel) k
  have m59 : ∀ k, zp_n F1 rw_ k = zp_n F rw_ k := fun k => zp_nc hfr1 hS.2.2.2.2.1.2 (by decide +kernel) k
  have h12 := hx1 _ _ h12
  have h13 := hx1 _ _ h13
  refine zl_this (pc := 1323) (k := 2) (i := 2) (a := ma) hC (zd_law22 (1323, .aload_n 2, 1, 0, []) (List.mem_of_getElem? (i := 13) rfl)) rfl hl2 ?_
  refine zl_arg (pc := 1324) (j := j) (k := 1) (n := 1) hC hI1 (by omega) (by decide) hl0 hl3 (zd_law22 (1324, .aload_n 0, 1, 0, []) (List.mem_of_getElem? (i := 14) rfl)) (zd_law22 (1325, .iload_n 3, 1, 0, []) (List.mem_of_getElem? (i := 15) rfl)) (zd_law22 (1326, .iconst 1, 1, 0, []) (List.mem_of_getElem? (i := 16) rfl)) (zd_law22 (1327, .iadd, 1, 0, []) (List.mem_of_getElem? (i := 17) rfl)) (zd_law22 (1328, .iaload, 1, 0, []) (List.mem_of_getElem? (i := 18) rfl)) ?_
  refine zl_callp (pc := 1329) (how := 0) (idx := 178) (mi := 187) (mcm := 0) (msm := 0) (pl := [1573, 128, 1574, 1575]) hC (zX_bk6 hW) (by decide +kernel) rfl (by decide +kernel) (zd_law22 (1329, .invokevirtual 178, 3, 0, []) (List.mem_of_getElem? (i := 19) rfl)) (zd_law22 (1332, .pop, 1, 0, []) (List.mem_of_getElem? (i := 20) rfl)) hI1 [(ma : Int), zl_y xs j 1] rfl ⟨zp_o2 h13, zl_yo, trivial⟩ trivial hl.1 hf (fun al2 hal2 rn2 P2 F2 H2 locs2 hx2 hI2 hfr2 hok2 hcs2 hB2 => ?_)
  have hS2 := zl_Sfr hS1 h12 h13 hx2 hfr2 (by decide +kernel)
  have hd2 := zl_dfr h12 h13 hd1 hfr2 (by decide +kernel)
  have ht2 := zl_tfr hS1 h13 ht1 hfr2 (by decide +kernel)
  have hi2 := zl_ifr hS1 hi1 hx2 hfr2 (by decide +kernel)
  have b2 := hB2.2 kp ri rw_ hS1.2.2.2.2.2.2.1.1 hS1.2.2.2.2.2.1.1 hS1.2.2.2.2.1.1
  have b2 : (¬ (0 ≤ zl_y xs j 1 ∧ zl_y xs j 1 ≤ 1) → rn2 = -1 ∧ ∀ i : Nat, i < 3 → zp_n F2 rw_ (2000 + i) = zp_n F1 rw_ (2000 + i)) ∧ ∀ q : Nat, q < 2 → zl_y xs j 1 = (q : Int) → (zp_n F1 kp (2000 + q) = 0 → rn2 = -2 ∧ ∀ i : Nat, i < 3 → zp_n F2 rw_ (2000 + i) = zp_n F1 rw_ (2000 + i)) ∧ (¬ zp_n F1 kp (2000 + q) = 0 → rn2 = 0 ∧ ∀ i : Nat, i < 3 → zp_n F2 rw_ (2000 + i) = zp_n F1 ri (2000 + (5580 * q + i))) := b2
  have nt : ∀ k, zI_f k → zp_n F2 tn k = zp_n F1 tn k := fun k hk => by
    rcases hk with rfl | rfl | rfl
    · exact zp_nf hfr2 hS1.1.2 (by decide +kernel)
    · exact zp_nf hfr2 hS1.1.2 (by decide +kernel)
    · exact zp_nf hfr2 hS1.1.2 (by decide +kernel)
  have hh : rn1 = rn2 ∧ zl_c tn rw_ (zp_n F2) := by
    by_cases hy : 0 ≤ zl_y xs j 1 ∧ zl_y xs j 1 ≤ 1
    · obtain ⟨q, hyq⟩ : ∃ q : Nat, zl_y xs j 1 = (q : Int) := zp_nat hy.1
      have hq2 : q < 2 := by omega
      obtain ⟨i1, i2, i3⟩ := hi
      have iq := i1 q hq2
      by_cases hn : zp_n F im (2000 + q) < 0
      · obtain ⟨r1, g1⟩ := (b1.2 q hq2 hyq).1 hn
        have hk0 : zp_n F1 kp (2000 + q) = 0 := by rw [m61]; exact Decidable.of_not_not (fun h => absurd (iq.mpr h) (Int.not_le.mpr hn))
        obtain ⟨r2, g2⟩ := (b2.2 q hq2 hyq).1 hk0
        exact ⟨r1.trans r2.symm, ⟨by rw [nt 1 (Or.inl rfl), g1 1 (Or.inl rfl), g2 0 (by decide), m59]; exact hc.1, by rw [nt 3 (Or.inr (Or.inl rfl)), g1 3 (Or.inr (Or.inl rfl)), g2 1 (by decide), m59]; exact hc.2.1, by rw [nt 9 (Or.inr (Or.inr rfl)), g1 9 (Or.inr (Or.inr rfl)), g2 2 (by decide), m59]; exact hc.2.2⟩⟩
      · obtain ⟨z, hz⟩ := zp_nat (Int.not_lt.mp hn)
        obtain ⟨qz, r1, g1⟩ := (b1.2 q hq2 hyq).2 z hz
        have hk0 : ¬ zp_n F1 kp (2000 + q) = 0 := by rw [m61]; exact iq.mp (Int.not_lt.mp hn)
        obtain ⟨r2, g2⟩ := (b2.2 q hq2 hyq).2 hk0
        obtain ⟨g0, k1, k2, k3⟩ := i2 q z hq2 hz
        exact ⟨r1.trans r2.symm, ⟨by rw [nt 1 (Or.inl rfl), g1 1 (Or.inl rfl), g2 0 (by decide), m60]; exact k1, by rw [nt 3 (Or.inr (Or.inl rfl)), g1 3 (Or.inr (Or.inl rfl)), g2 1 (by decide), m60]; exact k2, by rw [nt 9 (Or.inr (Or.inr rfl)), g1 9 (Or.inr (Or.inr rfl)), g2 2 (by decide), m60]; exact k3⟩⟩
    · obtain ⟨r1, g1⟩ := b1.1 hy
      obtain ⟨r2, g2⟩ := b2.1 hy
      exact ⟨r1.trans r2.symm, ⟨by rw [nt 1 (Or.inl rfl), g1 1 (Or.inl rfl), g2 0 (by decide), m59]; exact hc.1, by rw [nt 3 (Or.inr (Or.inl rfl)), g1 3 (Or.inr (Or.inl rfl)), g2 1 (by decide), m59]; exact hc.2.1, by rw [nt 9 (Or.inr (Or.inr rfl)), g1 9 (Or.inr (Or.inr rfl)), g2 2 (by decide), m59]; exact hc.2.2⟩⟩
  have e3 := hh.1
  have hc2 := hh.2
  have hR : zl_R xa ma P2 (zp_n F2) := ⟨tn, im, tp, tb, rw_, ri, kp, mt, hS2, hc2, hd2, ht2, hi2⟩
  have h12 := hx2 _ _ h12
  have h13 := hx2 _ _ h13
  refine lv_goto (pc := 1333) (tgt := 1372) hC.1 hC.2.1 (zd_law22 (1333, .goto 39, 3, 0, []) (List.mem_of_getElem? (i := 21) rfl)) (by decide) ?_
  exact kk P2 F2 H2 locs2 hI2 h12 h13 hR
/-- case 40 -/
theorem zl_c40 {p : Program} {l : Launch} {e : Env} {s : State} {m : MethodId} {args : Array Value} {below : List Frame} {meth : Method} {c : Code} {Q : State → Prop} {w : zk_W} {b L : Nat} {xs : Nat → Int32} (hC : zl_C p s m args c w b L xs) {xa ma j : Nat} (hj : 6 * j + 5 < L) {P : Nat → Option Nat} {F : Nat → va_E} {H : Heap} {locs : List Loc} {cu su : Nat} {ls : Array Slot} (hl : lv_has ls 4 [(0, .ref b), (1, .ref xa), (2, .ref ma), (3, .int (nI (6 * j)))]) (hI : zl_I w s P F H locs) (h12 : P xa = some 12) (h13 : P ma = some 13) (hR : zl_R xa ma P (zp_n F)) (hf : cu + 16 ≤ 600000 ∧ su + 940 ≤ 7302250) (kk : ∀ (P' : Nat → Option Nat) (F' : Nat → va_E) (H' : Heap) (locs' : List Loc), zl_I w s P' F' H' locs' → P' xa = some 12 → P' ma = some 13 → zl_R xa ma P' (zp_n F') → W p l e room_1 s m args below meth c H' locs' (cu + 16) (su + 940) Q (F0 m 1372 ls [])) : W p l e room_1 s m args below meth c H locs cu su Q (F0 m 1336 ls []) := by
  have hW : zh_W w := hC.2.2.2.2.2.2.2.2.1
  have hl0 := lv_at hl 0 rfl
  have hl1 := lv_at hl 1 rfl
  have hl2 := lv_at hl 2 rfl
  have hl3 := lv_at hl 3 rfl
  refine zl_this (pc := 1336) (k := 1) (i := 1) (a := xa) hC (zd_law22 (1336, .aload_n 1, 1, 0, []) (List.mem_of_getElem? (i := 22) rfl)) rfl hl1 ?_
  refine zl_arg (pc := 1337) (j := j) (k := 1) (n := 1) hC hI (by omega) (by decide) hl0 hl3 (zd_law22 (1337, .aload_n 0, 1, 0, []) (List.mem_of_getElem? (i := 23) rfl)) (zd_law22 (1338, .iload_n 3, 1, 0, []) (List.mem_of_getElem? (i := 24) rfl)) (zd_law22 (1339, .iconst 1, 1, 0, []) (List.mem_of_getElem? (i := 25) rfl)) (zd_law22 (1340, .iadd, 1, 0, []) (List.mem_of_getElem? (i := 26) rfl)) (zd_law22 (1341, .iaload, 1, 0, []) (List.mem_of_getElem? (i := 27) rfl)) ?_
  refine zl_callp (pc := 1342) (how := 0) (idx := 179) (mi := 179) (mcm := 16) (msm := 940) (pl := [1329, 115, 1330, 1331]) hC (zp_plain (zq_290 hW)) (by decide +kernel) rfl (by decide +kernel) (zd_law22 (1342, .invokevirtual 179, 3, 0, []) (List.mem_of_getElem? (i := 28) rfl)) (zd_law22 (1345, .pop, 1, 0, []) (List.mem_of_getElem? (i := 29) rfl)) hI [(xa : Int), zl_y xs j 1] rfl ⟨zp_o2 h12, zl_yo, trivial⟩ trivial hl.1 hf (fun al1 hal1 rn1 P1 F1 H1 locs1 hx1 hI1 hfr1 hok1 hcs1 hB1 => ?_)
  have hR := zl_Rfr hR h12 h13 hx1 hfr1 (by decide +kernel)
  have h12 := hx1 _ _ h12
  have h13 := hx1 _ _ h13
  refine zl_this (pc := 1346) (k := 2) (i := 2) (a := ma) hC (zd_law22 (1346, .aload_n 2, 1, 0, []) (List.mem_of_getElem? (i := 30) rfl)) rfl hl2 ?_
  refine zl_arg (pc := 1347) (j := j) (k := 1) (n := 1) hC hI1 (by omega) (by decide) hl0 hl3 (zd_law22 (1347, .aload_n 0, 1, 0, []) (List.mem_of_getElem? (i := 31) rfl)) (zd_law22 (1348, .iload_n 3, 1, 0, []) (List.mem_of_getElem? (i := 32) rfl)) (zd_law22 (1349, .iconst 1, 1, 0, []) (List.mem_of_getElem? (i := 33) rfl)) (zd_law22 (1350, .iadd, 1, 0, []) (List.mem_of_getElem? (i := 34) rfl)) (zd_law22 (1351, .iaload, 1, 0, []) (List.mem_of_getElem? (i := 35) rfl)) ?_
  refine zl_callp (pc := 1352) (how := 0) (idx := 182) (mi := 298) (mcm := 0) (msm := 0) (pl := [2053, 128, 2054, 2055]) hC (zp_plain (zq_1140 hW)) (by decide +kernel) rfl (by decide +kernel) (zd_law22 (1352, .invokevirtual 182, 3, 0, []) (List.mem_of_getElem? (i := 36) rfl)) (zd_law22 (1355, .pop, 1, 0, []) (List.mem_of_getElem? (i := 37) rfl)) hI1 [(ma : Int), zl_y xs j 1] rfl ⟨zp_o2 h13, zl_yo, trivial⟩ trivial hl.1 hf (fun al2 hal2 rn2 P2 F2 H2 locs2 hx2 hI2 hfr2 hok2 hcs2 hB2 => ?_)
  have hR := zl_Rfr hR h12 h13 hx2 hfr2 (by decide +kernel)
  have h12 := hx2 _ _ h12
  have h13 := hx2 _ _ h13
  refine lv_goto (pc := 1356) (tgt := 1372) hC.1 hC.2.1 (zd_law22 (1356, .goto 16, 3, 0, []) (List.mem_of_getElem? (i := 38) rfl)) (by decide) ?_
  exact kk P2 F2 H2 locs2 hI2 h12 h13 hR
/-- case 41 -/
theorem zl_c41 {p : Program} {l : Launch} {e : Env} {s : State} {m : MethodId} {args : Array Value} {below : List Frame} {meth : Method} {c : Code} {Q : State → Prop} {w : zk_W} {b L : Nat} {xs : Nat → Int32} (hC : zl_C p s m args c w b L xs) {xa ma j : Nat} (hj : 6 * j + 5 < L) {P : Nat → Option Nat} {F : Nat → va_E} {H : Heap} {locs : List Loc} {cu su : Nat} {ls : Array Slot} (hl : lv_has ls 4 [(0, .ref b), (1, .ref xa), (2, .ref ma), (3, .int (nI (6 * j)))]) (hI : zl_I w s P F H locs) (h12 : P xa = some 12) (h13 : P ma = some 13) (hR : zl_R xa ma P (zp_n F)) (hf : cu + 16 ≤ 600000 ∧ su + 940 ≤ 7302250) (kk : ∀ (P' : Nat → Option Nat) (F' : Nat → va_E) (H' : Heap) (locs' : List Loc), zl_I w s P' F' H' locs' → P' xa = some 12 → P' ma = some 13 → zl_R xa ma P' (zp_n F') → W p l e room_1 s m args below meth c H' locs' (cu + 16) (su + 940) Q (F0 m 1372 ls [])) : W p l e room_1 s m args below meth c H locs cu su Q (F0 m 1359 ls []) := by
  have hW : zh_W w := hC.2.2.2.2.2.2.2.2.1
  have hl0 := lv_at hl 0 rfl
  have hl1 := lv_at hl 1 rfl
  have hl2 := lv_at hl 2 rfl
  have hl3 := lv_at hl 3 rfl
  refine zl_this (pc := 1359) (k := 1) (i := 1) (a := xa) hC (zd_law22 (1359, .aload_n 1, 1, 0, []) (List.mem_of_getElem? (i := 39) rfl)) rfl hl1 ?_
  refine zl_callp (pc := 1360) (how := 0) (idx := 183) (mi := 180) (mcm := 16) (msm := 940) (pl := [1333, 115, 1334, 1335]) hC (zp_plain (zq_291 hW)) (by decide +kernel) rfl (by decide +kernel) (zd_law23 (1360, .invokevirtual 183, 3, 0, []) (List.mem_of_getElem? (i := 0) rfl)) (zd_law23 (1363, .pop, 1, 0, []) (List.mem_of_getElem? (i := 1) rfl)) hI [(xa : Int)] rfl ⟨zp_o2 h12, trivial⟩ trivial hl.1 hf (fun al1 hal1 rn1 P1 F1 H1 locs1 hx1 hI1 hfr1 hok1 hcs1 hB1 => ?_)
  have hR := zl_Rfr hR h12 h13 hx1 hfr1 (by decide +kernel)
  have h12 := hx1 _ _ h12
  have h13 := hx1 _ _ h13
  refine zl_this (pc := 1364) (k := 2) (i := 2) (a := ma) hC (zd_law23 (1364, .aload_n 2, 1, 0, []) (List.mem_of_getElem? (i := 2) rfl)) rfl hl2 ?_
  refine zl_callp (pc := 1365) (how := 0) (idx := 186) (mi := 299) (mcm := 0) (msm := 0) (pl := [2059, 128, 2060, 2061]) hC (zp_plain (zq_1141 hW)) (by decide +kernel) rfl (by decide +kernel) (zd_law23 (1365, .invokevirtual 186, 3, 0, []) (List.mem_of_getElem? (i := 3) rfl)) (zd_law23 (1368, .pop, 1, 0, []) (List.mem_of_getElem? (i := 4) rfl)) hI1 [(ma : Int)] rfl ⟨zp_o2 h13, trivial⟩ trivial hl.1 hf (fun al2 hal2 rn2 P2 F2 H2 locs2 hx2 hI2 hfr2 hok2 hcs2 hB2 => ?_)
  have hR := zl_Rfr hR h12 h13 hx2 hfr2 (by decide +kernel)
  have h12 := hx2 _ _ h12
  have h13 := hx2 _ _ h13
  refine lv_goto (pc := 1369) (tgt := 1372) hC.1 hC.2.1 (zd_law23 (1369, .goto 3, 3, 0, []) (List.mem_of_getElem? (i := 5) rfl)) (by decide) ?_
  exact kk P2 F2 H2 locs2 hI2 h12 h13 hR
