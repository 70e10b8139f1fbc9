/-! a case of the law -/
/-- case 8 -/
theorem zl_c8 {p : Program} {l : Launch} {e : Env} {s : State} {m : MethodId} {args : Array Value} {below : List Frame} {meth : Method} {c : Code} {Q : State → Prop} {w : zk_W} {b L : Nat} {xs : Nat → Int32} (hC : zl_C p s m args c w b L xs) {xa ma j : Nat} (hj : 6 * j + 5 < L) {P : Nat → Option Nat} {F : Nat → va_E} {H : Heap} {locs : List Loc} {cu su : Nat} {ls : Array Slot} (hl : lv_has ls 4 [(0, .ref b), (1, .ref xa), (2, .ref ma), (3, .int (nI (6 * j)))]) (hI : zl_I w s P F H locs) (h12 : P xa = some 12) (h13 : P ma = some 13) (hR : zl_R xa ma P (zp_n F)) (hf : cu + 16 ≤ 600000 ∧ su + 940 ≤ 7302250) (kk : ∀ (P' : Nat → Option Nat) (F' : Nat → va_E) (H' : Heap) (locs' : List Loc), zl_I w s P' F' H' locs' → P' xa = some 12 → P' ma = some 13 → zl_R xa ma P' (zp_n F') → W p l e room_1 s m args below meth c H' locs' (cu + 16) (su + 940) Q (F0 m 1372 ls [])) : W p l e room_1 s m args below meth c H locs cu su Q (F0 m 550 ls []) := by
  have hW : zh_W w := hC.2.2.2.2.2.2.2.2.1
  have hl0 := lv_at hl 0 rfl
  have hl1 := lv_at hl 1 rfl
  have hl2 := lv_at hl 2 rfl
  have hl3 := lv_at hl 3 rfl
  refine zl_this (pc := 550) (k := 1) (i := 1) (a := xa) hC (zd_law7 (550, .aload_n 1, 1, 0, []) (List.mem_of_getElem? (i := 28) rfl)) rfl hl1 ?_
  refine zl_arg (pc := 551) (j := j) (k := 1) (n := 1) hC hI (by omega) (by decide) hl0 hl3 (zd_law7 (551, .aload_n 0, 1, 0, []) (List.mem_of_getElem? (i := 29) rfl)) (zd_law7 (552, .iload_n 3, 1, 0, []) (List.mem_of_getElem? (i := 30) rfl)) (zd_law7 (553, .iconst 1, 1, 0, []) (List.mem_of_getElem? (i := 31) rfl)) (zd_law7 (554, .iadd, 1, 0, []) (List.mem_of_getElem? (i := 32) rfl)) (zd_law7 (555, .iaload, 1, 0, []) (List.mem_of_getElem? (i := 33) rfl)) ?_
  refine zl_callp (pc := 556) (how := 0) (idx := 48) (mi := 34) (mcm := 16) (msm := 940) (pl := [681, 115, 682, 683]) hC (zX_et1 hW) (by decide +kernel) rfl (by decide +kernel) (zd_law7 (556, .invokevirtual 48, 3, 0, []) (List.mem_of_getElem? (i := 34) rfl)) (zd_law7 (559, .pop, 1, 0, []) (List.mem_of_getElem? (i := 35) rfl)) hI [(xa : Int), zl_y xs j 1] rfl ⟨zp_o2 h12, zl_yo, trivial⟩ trivial hl.1 hf (fun al1 hal1 rn1 P1 F1 H1 locs1 hx1 hI1 hfr1 hok1 hcs1 hB1 => ?_)
  obtain ⟨tn, im, tp, tb, rw_, ri, kp, mt, rd, w1, w2, w3, hS, hc, hd, ht, hi, hg, ho, hq9⟩ := hR
  have hS1 := zl_Sfr hS h12 h13 hx1 hfr1 (by decide +kernel)
  have hg1 := zl_gfr hS hg hfr1 (by decide +kernel)
  have hq91 := zl_ffr hS.2.2.2.2.2.2.2.2.1.2 h13 hq9 hfr1 (by decide +kernel)
  have ho1 := zl_ofr h13 ho hfr1 (by decide +kernel)
  have hc1 := zl_cfr hS hc hfr1 (by decide +kernel)
  have hd1 := zl_dfr h12 h13 hd hfr1 (by decide +kernel)
  have hi1 := zl_ifr hS hi hx1 hfr1 (by decide +kernel)
  have b1 : (0 ≤ zl_y xs j 1 ∧ zl_y xs j 1 ≤ zp_n F (zp_n F xa 8).toNat 1 → rn1 = zl_y xs j 1 ∧ zp_n F1 (zp_n F xa 8).toNat 1 = zl_y xs j 1) ∧ (¬ (0 ≤ zl_y xs j 1 ∧ zl_y xs j 1 ≤ zp_n F (zp_n F xa 8).toNat 1) → rn1 = -1 ∧ zp_n F1 (zp_n F xa 8).toNat 1 = zp_n F (zp_n F xa 8).toNat 1) := hB1.2
  rw [hS.2.2.1.1, Int.toNat_natCast] at b1
  have m13 : zp_n F1 ma 13 = zp_n F ma 13 := zp_nf hfr1 h13 (by decide +kernel)
  have mmt : ∀ j, zp_n F1 mt (2000 + j) = zp_n F mt (2000 + j) := fun j => zp_nc hfr1 hS.2.2.2.2.2.2.2.1.2 (by decide +kernel) _
  have mtb : ∀ j, zp_n F1 tb (2000 + j) = zp_n F tb (2000 + j) := fun j => zp_nc hfr1 hS.2.2.2.1.2 (by decide +kernel) _
  have h12 := hx1 _ _ h12
  have h13 := hx1 _ _ h13
  refine zl_this (pc := 560) (k := 2) (i := 2) (a := ma) hC (zd_law7 (560, .aload_n 2, 1, 0, []) (List.mem_of_getElem? (i := 36) rfl)) rfl hl2 ?_
  refine zl_arg (pc := 561) (j := j) (k := 1) (n := 1) hC hI1 (by omega) (by decide) hl0 hl3 (zd_law7 (561, .aload_n 0, 1, 0, []) (List.mem_of_getElem? (i := 37) rfl)) (zd_law7 (562, .iload_n 3, 1, 0, []) (List.mem_of_getElem? (i := 38) rfl)) (zd_law7 (563, .iconst 1, 1, 0, []) (List.mem_of_getElem? (i := 39) rfl)) (zd_law8 (564, .iadd, 1, 0, []) (List.mem_of_getElem? (i := 0) rfl)) (zd_law8 (565, .iaload, 1, 0, []) (List.mem_of_getElem? (i := 1) rfl)) ?_
  refine zl_callp (pc := 566) (how := 0) (idx := 52) (mi := 207) (mcm := 0) (msm := 0) (pl := [1661, 128, 1662, 1663]) hC (zX_en2 hW) (by decide +kernel) rfl (by decide +kernel) (zd_law8 (566, .invokevirtual 52, 3, 0, []) (List.mem_of_getElem? (i := 2) rfl)) (zd_law8 (569, .pop, 1, 0, []) (List.mem_of_getElem? (i := 3) rfl)) hI1 [(ma : Int), zl_y xs j 1] rfl ⟨zp_o2 h13, zl_yo, trivial⟩ trivial hl.1 hf (fun al2 hal2 rn2 P2 F2 H2 locs2 hx2 hI2 hfr2 hok2 hcs2 hB2 => ?_)
  have hS2 := zl_Sfr hS1 h12 h13 hx2 hfr2 (by decide +kernel)
  have hg2 := zl_gfr hS1 hg1 hfr2 (by decide +kernel)
  have hq92 := zl_ffr hS1.2.2.2.2.2.2.2.2.1.2 h13 hq91 hfr2 (by decide +kernel)
  have ho2 := zl_ofr h13 ho1 hfr2 (by decide +kernel)
  have hc2 := zl_cfr hS1 hc1 hfr2 (by decide +kernel)
  have hd2 := zl_dfr h12 h13 hd1 hfr2 (by decide +kernel)
  have hi2 := zl_ifr hS1 hi1 hx2 hfr2 (by decide +kernel)
  have b2 : (0 ≤ zl_y xs j 1 ∧ zl_y xs j 1 ≤ zp_n F1 ma 13 → rn2 = zl_y xs j 1 ∧ zp_n F2 ma 13 = zl_y xs j 1) ∧ (¬ (0 ≤ zl_y xs j 1 ∧ zl_y xs j 1 ≤ zp_n F1 ma 13) → rn2 = -1 ∧ zp_n F2 ma 13 = zp_n F1 ma 13) := hB2.2
  obtain ⟨t0, t1⟩ := ht
  rw [m13, ← t0] at b2
  have x71 : zp_n F2 tp 1 = zp_n F1 tp 1 := zp_nf hfr2 hS1.2.2.1.2 (by decide +kernel)
  have xtb : ∀ j, zp_n F2 tb (2000 + j) = zp_n F1 tb (2000 + j) := fun j => zp_nc hfr2 hS1.2.2.2.1.2 (by decide +kernel) _
  have xmt : ∀ j, zp_n F2 mt (2000 + j) = zp_n F1 mt (2000 + j) := fun j => zp_nc hfr2 hS1.2.2.2.2.2.2.2.1.2 (by decide +kernel) _
  have e3 : rn1 = rn2 := by omega
  have ht2 : zl_t ma tp tb mt (zp_n F2) := ⟨by omega, fun j hj => by rw [xtb, mtb, xmt, mmt]; exact t1 j (by omega)⟩
  have hR : zl_R xa ma P2 (zp_n F2) := ⟨tn, im, tp, tb, rw_, ri, kp, mt, rd, w1, w2, w3, hS2, hc2, hd2, ht2, hi2, hg2, ho2, hq92⟩
  have h12 := hx2 _ _ h12
  have h13 := hx2 _ _ h13
  refine lv_goto (pc := 570) (tgt := 1372) hC.1 hC.2.1 (zd_law8 (570, .goto 802, 3, 0, []) (List.mem_of_getElem? (i := 4) rfl)) (by decide) ?_
  exact kk P2 F2 H2 locs2 hI2 h12 h13 hR
