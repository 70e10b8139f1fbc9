/-! a case of the law -/
/-- case 9 -/
theorem zl_c9 {p : Program} {l : Launch} {e : Env} {s : State} {m : MethodId} {args : Array Value} {below : List Frame} {meth : Method} {c : Code} {Q : State → Prop} {w : zk_W} {b L : Nat} {xs : Nat → Int32} (hC : zl_C p s m args c w b L xs) {xa ma j : Nat} (hj : 6 * j + 5 < L) {P : Nat → Option Nat} {F : Nat → va_E} {H : Heap} {locs : List Loc} {cu su : Nat} {ls : Array Slot} (hl : lv_has ls 4 [(0, .ref b), (1, .ref xa), (2, .ref ma), (3, .int (nI (6 * j)))]) (hI : zl_I w s P F H locs) (h12 : P xa = some 12) (h13 : P ma = some 13) (hR : zl_R xa ma P (zp_n F)) (hf : cu + 16 ≤ 600000 ∧ su + 940 ≤ 7302250) (kk : ∀ (P' : Nat → Option Nat) (F' : Nat → va_E) (H' : Heap) (locs' : List Loc), zl_I w s P' F' H' locs' → P' xa = some 12 → P' ma = some 13 → zl_R xa ma P' (zp_n F') → W p l e room_1 s m args below meth c H' locs' (cu + 16) (su + 940) Q (F0 m 1372 ls [])) : W p l e room_1 s m args below meth c H locs cu su Q (F0 m 573 ls []) := by
  have hW : zh_W w := hC.2.2.2.2.2.2.2.2.1
  have hl0 := lv_at hl 0 rfl
  have hl1 := lv_at hl 1 rfl
  have hl2 := lv_at hl 2 rfl
  have hl3 := lv_at hl 3 rfl
  refine zl_this (pc := 573) (k := 1) (i := 1) (a := xa) hC (zd_law8 (573, .aload_n 1, 1, 0, []) (List.mem_of_getElem? (i := 5) rfl)) rfl hl1 ?_
  refine zl_callp (pc := 574) (how := 0) (idx := 53) (mi := 35) (mcm := 16) (msm := 940) (pl := [685, 115, 686, 687]) hC (zX_rws hW) (by decide +kernel) rfl (by decide +kernel) (zd_law8 (574, .invokevirtual 53, 3, 0, []) (List.mem_of_getElem? (i := 6) rfl)) (zd_law8 (577, .pop, 1, 0, []) (List.mem_of_getElem? (i := 7) rfl)) hI [(xa : Int)] rfl ⟨zp_o2 h12, trivial⟩ trivial hl.1 hf (fun al1 hal1 rn1 P1 F1 H1 locs1 hx1 hI1 hfr1 hok1 hcs1 hB1 => ?_)
  obtain ⟨tn, im, tp, tb, rw_, ri, kp, mt, rd, w1, w2, w3, hS, hc, hd, ht, hi, hg, ho, hq9⟩ := hR
  have hS1 := zl_Sfr hS h12 h13 hx1 hfr1 (by decide +kernel)
  have hg1 := zl_gfr hS hg hfr1 (by decide +kernel)
  have hq91 := zl_ffr hS.2.2.2.2.2.2.2.2.1.2 h13 hq9 hfr1 (by decide +kernel)
  have ho1 := zl_ofr h13 ho hfr1 (by decide +kernel)
  have hi1 := zl_ifr hS hi hx1 hfr1 (by decide +kernel)
  have x11 : zp_n F1 tn 1 = zp_n F tn 1 := zp_nf hfr1 hS.1.2 (by decide +kernel)
  have x19 : zp_n F1 tn 9 = zp_n F tn 9 := zp_nf hfr1 hS.1.2 (by decide +kernel)
  have x114 : zp_n F1 tn 14 = zp_n F tn 14 := zp_nf hfr1 hS.1.2 (by decide +kernel)
  have x115 : zp_n F1 tn 15 = zp_n F tn 15 := zp_nf hfr1 hS.1.2 (by decide +kernel)
  have y10 : zp_n F1 rw_ (2000 + 0) = zp_n F rw_ (2000 + 0) := zp_ne hfr1 hS.2.2.2.2.1.2 (by decide +kernel)
  have y11 : zp_n F1 rw_ (2000 + 1) = zp_n F rw_ (2000 + 1) := zp_ne hfr1 hS.2.2.2.2.1.2 (by decide +kernel)
  have y12 : zp_n F1 rw_ (2000 + 2) = zp_n F rw_ (2000 + 2) := zp_ne hfr1 hS.2.2.2.2.1.2 (by decide +kernel)
  have y13 : zp_n F1 rw_ (2000 + 3) = zp_n F rw_ (2000 + 3) := zp_ne hfr1 hS.2.2.2.2.1.2 (by decide +kernel)
  have y14 : zp_n F1 rw_ (2000 + 4) = zp_n F rw_ (2000 + 4) := zp_ne hfr1 hS.2.2.2.2.1.2 (by decide +kernel)
  have b1 : ((zp_n F (zp_n F xa 8).toNat 1) = 0 → rn1 = -6 ∧ (zp_n F1 (zp_n F xa 0).toNat 3) = (zp_n F (zp_n F xa 0).toNat 3) ∧ (zp_n F1 xa 17) = (zp_n F xa 17)) ∧ (¬ (zp_n F (zp_n F xa 8).toNat 1) = 0 → rn1 = zR_w (fun j => zp_n F (zp_n F (zp_n F xa 8).toNat 0).toNat (2000 + j)) (zp_n F (zp_n F xa 8).toNat 1) (zp_n F (zp_n F xa 0).toNat 1) (zp_n F (zp_n F xa 0).toNat 3) (((zp_n F (zp_n F xa 8).toNat 1).toNat + 3) / 4) - (zp_n F (zp_n F xa 0).toNat 3) ∧ (zp_n F1 (zp_n F xa 0).toNat 3) = zR_w (fun j => zp_n F (zp_n F (zp_n F xa 8).toNat 0).toNat (2000 + j)) (zp_n F (zp_n F xa 8).toNat 1) (zp_n F (zp_n F xa 0).toNat 1) (zp_n F (zp_n F xa 0).toNat 3) (((zp_n F (zp_n F xa 8).toNat 1).toNat + 3) / 4) ∧ (zp_n F1 xa 17) = (((((zp_n F (zp_n F xa 8).toNat 1).toNat + 3) / 4 : Nat) : Int)) - (zR_w (fun j => zp_n F (zp_n F (zp_n F xa 8).toNat 0).toNat (2000 + j)) (zp_n F (zp_n F xa 8).toNat 1) (zp_n F (zp_n F xa 0).toNat 1) (zp_n F (zp_n F xa 0).toNat 3) (((zp_n F (zp_n F xa 8).toNat 1).toNat + 3) / 4) - (zp_n F (zp_n F xa 0).toNat 3))) ∧ (zp_n F1 (zp_n F xa 8).toNat 1) = 0 := hB1
  rw [hS.2.2.1.1, hS.1.1, Int.toNat_natCast, Int.toNat_natCast, hS.2.2.2.1.1, Int.toNat_natCast] at b1
  have m11 : zp_n F1 ma 11 = zp_n F ma 11 := zp_nf hfr1 h13 (by decide +kernel)
  have m13 : zp_n F1 ma 13 = zp_n F ma 13 := zp_nf hfr1 h13 (by decide +kernel)
  have mmt : ∀ j, zp_n F1 mt (2000 + j) = zp_n F mt (2000 + j) := fun j => zp_nc hfr1 hS.2.2.2.2.2.2.2.1.2 (by decide +kernel) _
  have h12 := hx1 _ _ h12
  have h13 := hx1 _ _ h13
  refine zl_this (pc := 578) (k := 2) (i := 2) (a := ma) hC (zd_law8 (578, .aload_n 2, 1, 0, []) (List.mem_of_getElem? (i := 8) rfl)) rfl hl2 ?_
  refine zl_callp (pc := 579) (how := 0) (idx := 57) (mi := 203) (mcm := 0) (msm := 0) (pl := [1645, 128, 1646, 1647]) hC (zX_mrw hW) (by decide +kernel) rfl (by decide +kernel) (zd_law8 (579, .invokevirtual 57, 3, 0, []) (List.mem_of_getElem? (i := 9) rfl)) (zd_law8 (582, .pop, 1, 0, []) (List.mem_of_getElem? (i := 10) rfl)) hI1 [(ma : Int)] rfl ⟨zp_o2 h13, trivial⟩ trivial hl.1 hf (fun al2 hal2 rn2 P2 F2 H2 locs2 hx2 hI2 hfr2 hok2 hcs2 hB2 => ?_)
  have hS2 := zl_Sfr hS1 h12 h13 hx2 hfr2 (by decide +kernel)
  have hg2 := zl_gfr hS1 hg1 hfr2 (by decide +kernel)
  have hq92 := zl_ffr hS1.2.2.2.2.2.2.2.2.1.2 h13 hq91 hfr2 (by decide +kernel)
  have ho2 := zl_ofr h13 ho1 hfr2 (by decide +kernel)
  have hi2 := zl_ifr hS1 hi1 hx2 hfr2 (by decide +kernel)
  have x21 : zp_n F2 tn 1 = zp_n F1 tn 1 := zp_nf hfr2 hS1.1.2 (by decide +kernel)
  have x23 : zp_n F2 tn 3 = zp_n F1 tn 3 := zp_nf hfr2 hS1.1.2 (by decide +kernel)
  have x29 : zp_n F2 tn 9 = zp_n F1 tn 9 := zp_nf hfr2 hS1.1.2 (by decide +kernel)
  have x214 : zp_n F2 tn 14 = zp_n F1 tn 14 := zp_nf hfr2 hS1.1.2 (by decide +kernel)
  have x215 : zp_n F2 tn 15 = zp_n F1 tn 15 := zp_nf hfr2 hS1.1.2 (by decide +kernel)
  have y20 : zp_n F2 rw_ (2000 + 0) = zp_n F1 rw_ (2000 + 0) := zp_ne hfr2 hS1.2.2.2.2.1.2 (by decide +kernel)
  have y22 : zp_n F2 rw_ (2000 + 2) = zp_n F1 rw_ (2000 + 2) := zp_ne hfr2 hS1.2.2.2.2.1.2 (by decide +kernel)
  have y23 : zp_n F2 rw_ (2000 + 3) = zp_n F1 rw_ (2000 + 3) := zp_ne hfr2 hS1.2.2.2.2.1.2 (by decide +kernel)
  have y24 : zp_n F2 rw_ (2000 + 4) = zp_n F1 rw_ (2000 + 4) := zp_ne hfr2 hS1.2.2.2.2.1.2 (by decide +kernel)
  have b2 : ((zp_n F1 ma 13) = 0 → rn2 = -6 ∧ (zp_n F2 (zp_n F1 ma 3).toNat (2000 + 1)) = (zp_n F1 (zp_n F1 ma 3).toNat (2000 + 1)) ∧ (zp_n F2 ma 11) = (zp_n F1 ma 11)) ∧ (¬ (zp_n F1 ma 13) = 0 → rn2 = zR_w (fun j => zp_n F1 (zp_n F1 ma 12).toNat (2000 + j)) (zp_n F1 ma 13) (zp_n F1 (zp_n F1 ma 3).toNat (2000 + 0)) (zp_n F1 (zp_n F1 ma 3).toNat (2000 + 1)) (((zp_n F1 ma 13).toNat + 3) / 4) - (zp_n F1 (zp_n F1 ma 3).toNat (2000 + 1)) ∧ (zp_n F2 (zp_n F1 ma 3).toNat (2000 + 1)) = zR_w (fun j => zp_n F1 (zp_n F1 ma 12).toNat (2000 + j)) (zp_n F1 ma 13) (zp_n F1 (zp_n F1 ma 3).toNat (2000 + 0)) (zp_n F1 (zp_n F1 ma 3).toNat (2000 + 1)) (((zp_n F1 ma 13).toNat + 3) / 4) ∧ (zp_n F2 ma 11) = (((((zp_n F1 ma 13).toNat + 3) / 4 : Nat) : Int)) - (zR_w (fun j => zp_n F1 (zp_n F1 ma 12).toNat (2000 + j)) (zp_n F1 ma 13) (zp_n F1 (zp_n F1 ma 3).toNat (2000 + 0)) (zp_n F1 (zp_n F1 ma 3).toNat (2000 + 1)) (((zp_n F1 ma 13).toNat + 3) / 4) - (zp_n F1 (zp_n F1 ma 3).toNat (2000 + 1)))) ∧ (zp_n F2 ma 13) = 0 := hB2
  rw [hS1.2.2.2.2.1.1, hS1.2.2.2.2.2.2.2.1.1, Int.toNat_natCast, Int.toNat_natCast] at b2
  obtain ⟨t0, t1⟩ := ht
  obtain ⟨c0, c1, c2, c3, c4⟩ := hc
  rw [m13, ← t0, y10, ← c0, y11, ← c1] at b2
  have hwc := zR_wc (B := fun j => zp_n F tb (2000 + j)) (B' := fun j => zp_n F1 mt (2000 + j)) (len := zp_n F tp 1) (pe := zp_n F tn 1) (n := zp_n F tn 3) (fun j hj => (t1 j hj).trans (mmt j).symm) (((zp_n F tp 1).toNat + 3) / 4)
  rw [← hwc] at b2
  have hd : zp_n F xa 17 = zp_n F ma 11 := hd
  obtain ⟨e3, e4, e5, e6, e7⟩ := zl_telr b1 b2 (hd.trans m11.symm)
  clear hwc b1 b2
  have x17 : zp_n F2 xa 17 = zp_n F1 xa 17 := zp_nf hfr2 h12 (by decide +kernel)
  have x71 : zp_n F2 tp 1 = zp_n F1 tp 1 := zp_nf hfr2 hS1.2.2.1.2 (by decide +kernel)
  have hc2 : zl_c tn rw_ (zp_n F2) := ⟨by omega, by omega, by omega, by omega, by omega⟩
  have hd2 : zl_d xa ma (zp_n F2) := (by omega : zp_n F2 xa 17 = zp_n F2 ma 11)
  have ht2 : zl_t ma tp tb mt (zp_n F2) := ⟨by omega, fun j hj => by omega⟩
  have hR : zl_R xa ma P2 (zp_n F2) := ⟨tn, im, tp, tb, rw_, ri, kp, mt, rd, w1, w2, w3, hS2, hc2, hd2, ht2, hi2, hg2, ho2, hq92⟩
  have h12 := hx2 _ _ h12
  have h13 := hx2 _ _ h13
  refine lv_goto (pc := 583) (tgt := 1372) hC.1 hC.2.1 (zd_law8 (583, .goto 789, 3, 0, []) (List.mem_of_getElem? (i := 11) rfl)) (by decide) ?_
  exact kk P2 F2 H2 locs2 hI2 h12 h13 hR
