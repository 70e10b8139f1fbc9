/-! a case of the law -/
/-- case 7 -/
theorem zl_c7 {p : Program} {l : Launch} {e : Env} {s : State} {m : MethodId} {args : Array Value} {below : List Frame} {meth : Method} {c : Code} {Q : State → Prop} {w : zk_W} {b L : Nat} {xs : Nat → Int32} (hC : zl_C p s m args c w b L xs) {xa ma j : Nat} (hj : 6 * j + 5 < L) {P : Nat → Option Nat} {F : Nat → va_E} {H : Heap} {locs : List Loc} {cu su : Nat} {ls : Array Slot} (hl : lv_has ls 4 [(0, .ref b), (1, .ref xa), (2, .ref ma), (3, .int (nI (6 * j)))]) (hI : zl_I w s P F H locs) (h12 : P xa = some 12) (h13 : P ma = some 13) (hR : zl_R xa ma P (zp_n F)) (hf : cu + 16 ≤ 600000 ∧ su + 940 ≤ 7302250) (kk : ∀ (P' : Nat → Option Nat) (F' : Nat → va_E) (H' : Heap) (locs' : List Loc), zl_I w s P' F' H' locs' → P' xa = some 12 → P' ma = some 13 → zl_R xa ma P' (zp_n F') → W p l e room_1 s m args below meth c H' locs' (cu + 16) (su + 940) Q (F0 m 1372 ls [])) : W p l e room_1 s m args below meth c H locs cu su Q (F0 m 487 ls []) := by
  have hW : zh_W w := hC.2.2.2.2.2.2.2.2.1
  have hl0 := lv_at hl 0 rfl
  have hl1 := lv_at hl 1 rfl
  have hl2 := lv_at hl 2 rfl
  have hl3 := lv_at hl 3 rfl
  refine zl_this (pc := 487) (k := 1) (i := 1) (a := xa) hC (zd_law6 (487, .aload_n 1, 1, 0, []) (List.mem_of_getElem? (i := 11) rfl)) rfl hl1 ?_
  refine zl_arg (pc := 488) (j := j) (k := 1) (n := 1) hC hI (by omega) (by decide) hl0 hl3 (zd_law6 (488, .aload_n 0, 1, 0, []) (List.mem_of_getElem? (i := 12) rfl)) (zd_law6 (489, .iload_n 3, 1, 0, []) (List.mem_of_getElem? (i := 13) rfl)) (zd_law6 (490, .iconst 1, 1, 0, []) (List.mem_of_getElem? (i := 14) rfl)) (zd_law6 (491, .iadd, 1, 0, []) (List.mem_of_getElem? (i := 15) rfl)) (zd_law6 (492, .iaload, 1, 0, []) (List.mem_of_getElem? (i := 16) rfl)) ?_
  refine zl_arg (pc := 493) (j := j) (k := 2) (n := 2) hC hI (by omega) (by decide) hl0 hl3 (zd_law6 (493, .aload_n 0, 1, 0, []) (List.mem_of_getElem? (i := 17) rfl)) (zd_law6 (494, .iload_n 3, 1, 0, []) (List.mem_of_getElem? (i := 18) rfl)) (zd_law6 (495, .iconst 2, 1, 0, []) (List.mem_of_getElem? (i := 19) rfl)) (zd_law6 (496, .iadd, 1, 0, []) (List.mem_of_getElem? (i := 20) rfl)) (zd_law6 (497, .iaload, 1, 0, []) (List.mem_of_getElem? (i := 21) rfl)) ?_
  refine zl_arg (pc := 498) (j := j) (k := 3) (n := 3) hC hI (by omega) (by decide) hl0 hl3 (zd_law6 (498, .aload_n 0, 1, 0, []) (List.mem_of_getElem? (i := 22) rfl)) (zd_law6 (499, .iload_n 3, 1, 0, []) (List.mem_of_getElem? (i := 23) rfl)) (zd_law6 (500, .iconst 3, 1, 0, []) (List.mem_of_getElem? (i := 24) rfl)) (zd_law6 (501, .iadd, 1, 0, []) (List.mem_of_getElem? (i := 25) rfl)) (zd_law6 (502, .iaload, 1, 0, []) (List.mem_of_getElem? (i := 26) rfl)) ?_
  refine zl_arg (pc := 503) (j := j) (k := 4) (n := 4) hC hI (by omega) (by decide) hl0 hl3 (zd_law6 (503, .aload_n 0, 1, 0, []) (List.mem_of_getElem? (i := 27) rfl)) (zd_law6 (504, .iload_n 3, 1, 0, []) (List.mem_of_getElem? (i := 28) rfl)) (zd_law6 (505, .iconst 4, 1, 0, []) (List.mem_of_getElem? (i := 29) rfl)) (zd_law6 (506, .iadd, 1, 0, []) (List.mem_of_getElem? (i := 30) rfl)) (zd_law6 (507, .iaload, 1, 0, []) (List.mem_of_getElem? (i := 31) rfl)) ?_
  refine zl_arg (pc := 508) (j := j) (k := 5) (n := 5) hC hI (by omega) (by decide) hl0 hl3 (zd_law6 (508, .aload_n 0, 1, 0, []) (List.mem_of_getElem? (i := 32) rfl)) (zd_law6 (509, .iload_n 3, 1, 0, []) (List.mem_of_getElem? (i := 33) rfl)) (zd_law6 (510, .iconst 5, 1, 0, []) (List.mem_of_getElem? (i := 34) rfl)) (zd_law6 (511, .iadd, 1, 0, []) (List.mem_of_getElem? (i := 35) rfl)) (zd_law6 (512, .iaload, 1, 0, []) (List.mem_of_getElem? (i := 36) rfl)) ?_
  refine zl_callp (pc := 513) (how := 0) (idx := 44) (mi := 31) (mcm := 16) (msm := 940) (pl := [669, 115, 670, 671]) hC (zX_fdb hW) (by decide +kernel) rfl (by decide +kernel) (zd_law6 (513, .invokevirtual 44, 3, 0, []) (List.mem_of_getElem? (i := 37) rfl)) (zd_law6 (516, .pop, 1, 0, []) (List.mem_of_getElem? (i := 38) rfl)) hI [(xa : Int), zl_y xs j 1, zl_y xs j 2, zl_y xs j 3, zl_y xs j 4, zl_y xs j 5] rfl ⟨zp_o2 h12, zl_yo, zl_yo, zl_yo, zl_yo, zl_yo, trivial⟩ trivial hl.1 hf (fun al1 hal1 rn1 P1 F1 H1 locs1 hx1 hI1 hfr1 hok1 hcs1 hB1 => ?_)
  obtain ⟨tn, im, tp, tb, rw_, ri, kp, mt, rd, w1, w2, w3, hS, hc, hd, ht, hi, hg, ho, hq9⟩ := hR
  have hS1 := zl_Sfr hS h12 h13 hx1 hfr1 (by decide +kernel)
  have hg1 := zl_gfr hS hg hfr1 (by decide +kernel)
  have hq91 := zl_ffr hS.2.2.2.2.2.2.2.2.1.2 h13 hq9 hfr1 (by decide +kernel)
  have ho1 := zl_ofr h13 ho hfr1 (by decide +kernel)
  have hc1 := zl_cfr hS hc hfr1 (by decide +kernel)
  have hd1 := zl_dfr h12 h13 hd hfr1 (by decide +kernel)
  have hi1 := zl_ifr hS hi hx1 hfr1 (by decide +kernel)
  have b1 : (zp_n F (zp_n F xa 8).toNat 1 ≤ 380 → rn1 = zp_n F (zp_n F xa 8).toNat 1 + 20 ∧ zp_n F1 (zp_n F xa 8).toNat 1 = zp_n F (zp_n F xa 8).toNat 1 + 20 ∧ ∀ i9 : Nat, zp_n F1 (zp_n F (zp_n F xa 8).toNat 0).toNat (2000 + i9) = zF_5 (fun j => zp_n F (zp_n F (zp_n F xa 8).toNat 0).toNat (2000 + j)) (zp_n F (zp_n F xa 8).toNat 1) (zl_y xs j 1) (zl_y xs j 2) (zl_y xs j 3) (zl_y xs j 4) (zl_y xs j 5) i9) ∧ (¬ (zp_n F (zp_n F xa 8).toNat 1 ≤ 380) → rn1 = -1 ∧ zp_n F1 (zp_n F xa 8).toNat 1 = zp_n F (zp_n F xa 8).toNat 1 ∧ ∀ i9 : Nat, zp_n F1 (zp_n F (zp_n F xa 8).toNat 0).toNat (2000 + i9) = (fun j => zp_n F (zp_n F (zp_n F xa 8).toNat 0).toNat (2000 + j)) i9) := hB1
  rw [hS.2.2.1.1, Int.toNat_natCast, hS.2.2.2.1.1, Int.toNat_natCast] at b1
  have m13 : zp_n F1 ma 13 = zp_n F ma 13 := zp_nf hfr1 h13 (by decide +kernel)
  have mmt : ∀ j, zp_n F1 mt (2000 + j) = zp_n F mt (2000 + j) := fun j => zp_nc hfr1 hS.2.2.2.2.2.2.2.1.2 (by decide +kernel) _
  have h12 := hx1 _ _ h12
  have h13 := hx1 _ _ h13
  refine zl_this (pc := 517) (k := 2) (i := 2) (a := ma) hC (zd_law6 (517, .aload_n 2, 1, 0, []) (List.mem_of_getElem? (i := 39) rfl)) rfl hl2 ?_
  refine zl_arg (pc := 518) (j := j) (k := 1) (n := 1) hC hI1 (by omega) (by decide) hl0 hl3 (zd_law7 (518, .aload_n 0, 1, 0, []) (List.mem_of_getElem? (i := 0) rfl)) (zd_law7 (519, .iload_n 3, 1, 0, []) (List.mem_of_getElem? (i := 1) rfl)) (zd_law7 (520, .iconst 1, 1, 0, []) (List.mem_of_getElem? (i := 2) rfl)) (zd_law7 (521, .iadd, 1, 0, []) (List.mem_of_getElem? (i := 3) rfl)) (zd_law7 (522, .iaload, 1, 0, []) (List.mem_of_getElem? (i := 4) rfl)) ?_
  refine zl_arg (pc := 523) (j := j) (k := 2) (n := 2) hC hI1 (by omega) (by decide) hl0 hl3 (zd_law7 (523, .aload_n 0, 1, 0, []) (List.mem_of_getElem? (i := 5) rfl)) (zd_law7 (524, .iload_n 3, 1, 0, []) (List.mem_of_getElem? (i := 6) rfl)) (zd_law7 (525, .iconst 2, 1, 0, []) (List.mem_of_getElem? (i := 7) rfl)) (zd_law7 (526, .iadd, 1, 0, []) (List.mem_of_getElem? (i := 8) rfl)) (zd_law7 (527, .iaload, 1, 0, []) (List.mem_of_getElem? (i := 9) rfl)) ?_
  refine zl_arg (pc := 528) (j := j) (k := 3) (n := 3) hC hI1 (by omega) (by decide) hl0 hl3 (zd_law7 (528, .aload_n 0, 1, 0, []) (List.mem_of_getElem? (i := 10) rfl)) (zd_law7 (529, .iload_n 3, 1, 0, []) (List.mem_of_getElem? (i := 11) rfl)) (zd_law7 (530, .iconst 3, 1, 0, []) (List.mem_of_getElem? (i := 12) rfl)) (zd_law7 (531, .iadd, 1, 0, []) (List.mem_of_getElem? (i := 13) rfl)) (zd_law7 (532, .iaload, 1, 0, []) (List.mem_of_getElem? (i := 14) rfl)) ?_
  refine zl_arg (pc := 533) (j := j) (k := 4) (n := 4) hC hI1 (by omega) (by decide) hl0 hl3 (zd_law7 (533, .aload_n 0, 1, 0, []) (List.mem_of_getElem? (i := 15) rfl)) (zd_law7 (534, .iload_n 3, 1, 0, []) (List.mem_of_getElem? (i := 16) rfl)) (zd_law7 (535, .iconst 4, 1, 0, []) (List.mem_of_getElem? (i := 17) rfl)) (zd_law7 (536, .iadd, 1, 0, []) (List.mem_of_getElem? (i := 18) rfl)) (zd_law7 (537, .iaload, 1, 0, []) (List.mem_of_getElem? (i := 19) rfl)) ?_
  refine zl_arg (pc := 538) (j := j) (k := 5) (n := 5) hC hI1 (by omega) (by decide) hl0 hl3 (zd_law7 (538, .aload_n 0, 1, 0, []) (List.mem_of_getElem? (i := 20) rfl)) (zd_law7 (539, .iload_n 3, 1, 0, []) (List.mem_of_getElem? (i := 21) rfl)) (zd_law7 (540, .iconst 5, 1, 0, []) (List.mem_of_getElem? (i := 22) rfl)) (zd_law7 (541, .iadd, 1, 0, []) (List.mem_of_getElem? (i := 23) rfl)) (zd_law7 (542, .iaload, 1, 0, []) (List.mem_of_getElem? (i := 24) rfl)) ?_
  refine zl_callp (pc := 543) (how := 0) (idx := 47) (mi := 205) (mcm := 0) (msm := 0) (pl := [1653, 128, 1654, 1655]) hC (zX_mfd hW) (by decide +kernel) rfl (by decide +kernel) (zd_law7 (543, .invokevirtual 47, 3, 0, []) (List.mem_of_getElem? (i := 25) rfl)) (zd_law7 (546, .pop, 1, 0, []) (List.mem_of_getElem? (i := 26) rfl)) hI1 [(ma : Int), zl_y xs j 1, zl_y xs j 2, zl_y xs j 3, zl_y xs j 4, zl_y xs j 5] rfl ⟨zp_o2 h13, zl_yo, zl_yo, zl_yo, zl_yo, zl_yo, trivial⟩ trivial hl.1 hf (fun al2 hal2 rn2 P2 F2 H2 locs2 hx2 hI2 hfr2 hok2 hcs2 hB2 => ?_)
  have hS2 := zl_Sfr hS1 h12 h13 hx2 hfr2 (by decide +kernel)
  have hg2 := zl_gfr hS1 hg1 hfr2 (by decide +kernel)
  have hq92 := zl_ffr hS1.2.2.2.2.2.2.2.2.1.2 h13 hq91 hfr2 (by decide +kernel)
  have ho2 := zl_ofr h13 ho1 hfr2 (by decide +kernel)
  have hc2 := zl_cfr hS1 hc1 hfr2 (by decide +kernel)
  have hd2 := zl_dfr h12 h13 hd1 hfr2 (by decide +kernel)
  have hi2 := zl_ifr hS1 hi1 hx2 hfr2 (by decide +kernel)
  have b2 : (zp_n F1 ma 13 ≤ 380 → rn2 = zp_n F1 ma 13 + 20 ∧ zp_n F2 ma 13 = zp_n F1 ma 13 + 20 ∧ ∀ i9 : Nat, zp_n F2 (zp_n F1 ma 12).toNat (2000 + i9) = zF_5 (fun j => zp_n F1 (zp_n F1 ma 12).toNat (2000 + j)) (zp_n F1 ma 13) (zl_y xs j 1) (zl_y xs j 2) (zl_y xs j 3) (zl_y xs j 4) (zl_y xs j 5) i9) ∧ (¬ (zp_n F1 ma 13 ≤ 380) → rn2 = -1 ∧ zp_n F2 ma 13 = zp_n F1 ma 13 ∧ ∀ i9 : Nat, zp_n F2 (zp_n F1 ma 12).toNat (2000 + i9) = (fun j => zp_n F1 (zp_n F1 ma 12).toNat (2000 + j)) i9) := hB2
  rw [hS1.2.2.2.2.2.2.2.1.1, Int.toNat_natCast] at b2
  obtain ⟨t0, t1⟩ := ht
  rw [m13, ← t0] at b2
  have x71 : zp_n F2 tp 1 = zp_n F1 tp 1 := zp_nf hfr2 hS1.2.2.1.2 (by decide +kernel)
  have xtb : ∀ j, zp_n F2 tb (2000 + j) = zp_n F1 tb (2000 + j) := fun j => zp_nc hfr2 hS1.2.2.2.1.2 (by decide +kernel) _
  have hh : rn1 = rn2 ∧ zl_t ma tp tb mt (zp_n F2) := by
    by_cases hl : zp_n F tp 1 ≤ 380
    · obtain ⟨r1, l1, g1⟩ := b1.1 hl
      obtain ⟨r2, l2, g2⟩ := b2.1 hl
      refine ⟨r1.trans r2.symm, by rw [x71, l1, l2], fun j hj => ?_⟩
      rw [x71, l1] at hj
      rw [xtb, g1 j, g2 j]
      exact zF_5c (fun j hj => (t1 j hj).trans (mmt j).symm) j hj
    · obtain ⟨r1, l1, g1⟩ := b1.2 hl
      obtain ⟨r2, l2, g2⟩ := b2.2 hl
      refine ⟨r1.trans r2.symm, by rw [x71, l1, l2], fun j hj => ?_⟩
      rw [x71, l1] at hj
      rw [xtb, g1 j, g2 j]
      exact (t1 j hj).trans (mmt j).symm
  have e3 := hh.1
  have ht2 := hh.2
  have hc2 := hc2
  have hR : zl_R xa ma P2 (zp_n F2) := ⟨tn, im, tp, tb, rw_, ri, kp, mt, rd, w1, w2, w3, hS2, hc2, hd2, ht2, hi2, hg2, ho2, hq92⟩
  have h12 := hx2 _ _ h12
  have h13 := hx2 _ _ h13
  refine lv_goto (pc := 547) (tgt := 1372) hC.1 hC.2.1 (zd_law7 (547, .goto 825, 3, 0, []) (List.mem_of_getElem? (i := 27) rfl)) (by decide) ?_
  exact kk P2 F2 H2 locs2 hI2 h12 h13 hR
