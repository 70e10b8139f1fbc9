/-! a case of the law -/
/-- case 13 -/
theorem zl_c13 {p : Program} {l : Launch} {e : Env} {s : State} {m : MethodId} {args : Array Value} {below : List Frame} {meth : Method} {c : Code} {Q : State → Prop} {w : zk_W} {b L : Nat} {xs : Nat → Int32} (hC : zl_C p s m args c w b L xs) {xa ma j : Nat} (hj : 6 * j + 5 < L) {P : Nat → Option Nat} {F : Nat → va_E} {H : Heap} {locs : List Loc} {cu su : Nat} {ls : Array Slot} (hl : lv_has ls 4 [(0, .ref b), (1, .ref xa), (2, .ref ma), (3, .int (nI (6 * j)))]) (hI : zl_I w s P F H locs) (h12 : P xa = some 12) (h13 : P ma = some 13) (hR : zl_R xa ma P (zp_n F)) (hf : cu + 16 ≤ 600000 ∧ su + 940 ≤ 7302250) (kk : ∀ (P' : Nat → Option Nat) (F' : Nat → va_E) (H' : Heap) (locs' : List Loc), zl_I w s P' F' H' locs' → P' xa = some 12 → P' ma = some 13 → zl_R xa ma P' (zp_n F') → W p l e room_1 s m args below meth c H' locs' (cu + 16) (su + 940) Q (F0 m 1372 ls [])) : W p l e room_1 s m args below meth c H locs cu su Q (F0 m 625 ls []) := by
  have hW : zh_W w := hC.2.2.2.2.2.2.2.2.1
  have hl0 := lv_at hl 0 rfl
  have hl1 := lv_at hl 1 rfl
  have hl2 := lv_at hl 2 rfl
  have hl3 := lv_at hl 3 rfl
  refine zl_this (pc := 625) (k := 1) (i := 1) (a := xa) hC (zd_law8 (625, .aload_n 1, 1, 0, []) (List.mem_of_getElem? (i := 33) rfl)) rfl hl1 ?_
  refine zl_call (rest := []) (pc := 626) (how := 0) (idx := 70) (mi := 115) (mcm := 16) (msm := 940) (pl := [1039, 115, 1040, 1041]) hC 0 (zX_flc hW) (by decide +kernel) rfl (by decide +kernel) (zd_law8 (626, .invokevirtual 70, 3, 0, []) (List.mem_of_getElem? (i := 34) rfl)) hI [(xa : Int)] rfl ⟨zp_o2 h12, trivial⟩ trivial hl.1 (Nat.zero_le 8) hf (fun al1 hal1 rn1 P1 F1 H1 locs1 hx1 hI1 hfr1 hok1 hcs1 hB1 => ?_)
  obtain ⟨tn, im, tp, tb, rw_, ri, kp, mt, rd, w1, w2, w3, hS, hc, hd, ht, hi, hg, ho, hq9⟩ := hR
  have hS1 := zl_Sfr hS h12 h13 hx1 hfr1 (by decide +kernel)
  have hg1 := zl_gfr hS hg hfr1 (by decide +kernel)
  have hq91 := zl_ffr hS.2.2.2.2.2.2.2.2.1.2 h13 hq9 hfr1 (by decide +kernel)
  have ho1 := zl_ofr h13 ho hfr1 (by decide +kernel)
  have hc1 := zl_cfr hS hc hfr1 (by decide +kernel)
  have hd1 := zl_dfr h12 h13 hd hfr1 (by decide +kernel)
  have ht1 := zl_tfr hS h13 ht hfr1 (by decide +kernel)
  have hi1 := zl_ifr hS hi hx1 hfr1 (by decide +kernel)
  have b1 : rn1 = zp_n F (zp_n F xa 9).toNat 2 := hB1.2
  rw [hS.2.2.2.2.2.2.2.2.1.1, Int.toNat_natCast] at b1
  have h13o := h13
  have h12 := hx1 _ _ h12
  have h13 := hx1 _ _ h13
  refine zl_this (pc := 629) (k := 2) (i := 2) (a := ma) hC (zd_law8 (629, .aload_n 2, 1, 0, []) (List.mem_of_getElem? (i := 35) rfl)) rfl hl2 ?_
  refine zl_call (rest := [zk_mk 0 rn1]) (pc := 630) (how := 0) (idx := 73) (mi := 208) (mcm := 0) (msm := 0) (pl := [1665, 128, 1666, 1667]) hC 0 (zX_mfl hW) (by decide +kernel) rfl (by decide +kernel) (zd_law8 (630, .invokevirtual 73, 3, 0, []) (List.mem_of_getElem? (i := 36) rfl)) hI1 [(ma : Int)] rfl ⟨zp_o2 h13, trivial⟩ trivial hl.1 (by show 1 + 0 ≤ 8; decide) hf (fun al2 hal2 rn2 P2 F2 H2 locs2 hx2 hI2 hfr2 hok2 hcs2 hB2 => ?_)
  have hS2 := zl_Sfr hS1 h12 h13 hx2 hfr2 (by decide +kernel)
  have hg2 := zl_gfr hS1 hg1 hfr2 (by decide +kernel)
  have hq92 := zl_ffr hS1.2.2.2.2.2.2.2.2.1.2 h13 hq91 hfr2 (by decide +kernel)
  have ho2 := zl_ofr h13 ho1 hfr2 (by decide +kernel)
  have hc2 := zl_cfr hS1 hc1 hfr2 (by decide +kernel)
  have hd2 := zl_dfr h12 h13 hd1 hfr2 (by decide +kernel)
  have ht2 := zl_tfr hS1 h13 ht1 hfr2 (by decide +kernel)
  have hi2 := zl_ifr hS1 hi1 hx2 hfr2 (by decide +kernel)
  have b2 : rn2 = zp_n F1 ma 18 := hB2.2
  have b3 : zp_n F1 ma 18 = zp_n F ma 18 := zp_nf hfr1 h13o (by decide +kernel)
  have e3 : rn1 = rn2 := by rw [b1, b2, b3]; exact hq9
  have hR : zl_R xa ma P2 (zp_n F2) := ⟨tn, im, tp, tb, rw_, ri, kp, mt, rd, w1, w2, w3, hS2, hc2, hd2, ht2, hi2, hg2, ho2, hq92⟩
  have h12 := hx2 _ _ h12
  have h13 := hx2 _ _ h13
  refine lv_icmp_eq (pc := 633) (tgt := 1372) hC.1 hC.2.1 (zd_law8 (633, .if_icmp .eq 739, 3, 0, []) (List.mem_of_getElem? (i := 37) rfl)) (by decide) (fun _ => ?_) (fun h => absurd (by rw [e3]) h)
  exact kk P2 F2 H2 locs2 hI2 h12 h13 hR
