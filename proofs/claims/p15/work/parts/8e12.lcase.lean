/-! a case of the law -/
/-- case 12 -/
theorem zl_c12 {p : Program} {l : Launch} {e : Env} {s : State} {m : MethodId} {args : Array Value} {below : List Frame} {meth : Method} {c : Code} {Q : State → Prop} {w : zk_W} {b L : Nat} {xs : Nat → Int32} (hC : zl_C p s m args c w b L xs) {xa ma j : Nat} (hj : 6 * j + 5 < L) {P : Nat → Option Nat} {F : Nat → va_E} {H : Heap} {locs : List Loc} {cu su : Nat} {ls : Array Slot} (hl : lv_has ls 4 [(0, .ref b), (1, .ref xa), (2, .ref ma), (3, .int (nI (6 * j)))]) (hI : zl_I w s P F H locs) (h12 : P xa = some 12) (h13 : P ma = some 13) (hR : zl_R xa ma P (zp_n F)) (hf : cu + 16 ≤ 600000 ∧ su + 940 ≤ 7302250) (kk : ∀ (P' : Nat → Option Nat) (F' : Nat → va_E) (H' : Heap) (locs' : List Loc), zl_I w s P' F' H' locs' → P' xa = some 12 → P' ma = some 13 → zl_R xa ma P' (zp_n F') → W p l e room_1 s m args below meth c H' locs' (cu + 16) (su + 940) Q (F0 m 1372 ls [])) : W p l e room_1 s m args below meth c H locs cu su Q (F0 m 612 ls []) := by
  have hW : zh_W w := hC.2.2.2.2.2.2.2.2.1
  have hl0 := lv_at hl 0 rfl
  have hl1 := lv_at hl 1 rfl
  have hl2 := lv_at hl 2 rfl
  have hl3 := lv_at hl 3 rfl
  refine zl_this (pc := 612) (k := 1) (i := 1) (a := xa) hC (zd_law8 (612, .aload_n 1, 1, 0, []) (List.mem_of_getElem? (i := 26) rfl)) rfl hl1 ?_
  refine zl_callp (pc := 613) (how := 0) (idx := 66) (mi := 79) (mcm := 16) (msm := 940) (pl := [885, 115, 886, 887]) hC (zX_cor hW (zl_Bc (zp_n F) xa) (zl_nc (zp_n F) xa)) (by decide +kernel) rfl (by decide +kernel) (zd_law8 (613, .invokevirtual 66, 3, 0, []) (List.mem_of_getElem? (i := 27) rfl)) (zd_law8 (616, .pop, 1, 0, []) (List.mem_of_getElem? (i := 28) rfl)) hI [(xa : Int)] rfl ⟨zp_o2 h12, trivial⟩ (zl_ask1 hW.1 hI.1 hR) hl.1 hf (fun al1 hal1 rn1 P1 F1 H1 locs1 hx1 hI1 hfr1 hok1 hcs1 hB1 => ?_)
  obtain ⟨tn, im, tp, tb, rw_, ri, kp, mt, rd, w1, w2, w3, hS, hc, hd, ht, hi, hg, ho, hq9⟩ := hR
  have hS1 := zl_Sfr hS h12 h13 hx1 hfr1 (by decide +kernel)
  have hg1 := zl_gfr hS hg hfr1 (by decide +kernel)
  have ho1 := zl_ofr h13 ho hfr1 (by decide +kernel)
  have hc1 := zl_cfr hS hc hfr1 (by decide +kernel)
  have hd1 := zl_dfr h12 h13 hd hfr1 (by decide +kernel)
  have hi1 := zl_ifr hS hi hx1 hfr1 (by decide +kernel)
  have b1 : zψ_cor (zl_Bc (zp_n F) xa) (zl_nc (zp_n F) xa) P (zp_n F) [(xa : Int)] P1 (zp_n F1) rn1 := hB1
  have b1 := zl_to1 b1 hS.2.2.1.1 hS.2.2.2.2.2.2.2.2.1.1
  rw [zl_Bc_e hS.2.2.1.1 hS.2.2.2.1.1, zl_nc_e hS.2.2.1.1] at b1
  have m13 : zp_n F1 ma 13 = zp_n F ma 13 := zp_nf hfr1 h13 (by decide +kernel)
  have mmt : ∀ j, zp_n F1 mt (2000 + j) = zp_n F mt (2000 + j) := fun j => zp_nc hfr1 hS.2.2.2.2.2.2.2.1.2 (by decide +kernel) _
  have h12 := hx1 _ _ h12
  have h13 := hx1 _ _ h13
  refine zl_this (pc := 617) (k := 2) (i := 2) (a := ma) hC (zd_law8 (617, .aload_n 2, 1, 0, []) (List.mem_of_getElem? (i := 29) rfl)) rfl hl2 ?_
  refine zl_callp (pc := 618) (how := 0) (idx := 69) (mi := 287) (mcm := 0) (msm := 0) (pl := [2000, 128, 2001, 2002]) hC (zY_or13 hW (zl_Bm (zp_n F1) ma) (zl_nm (zp_n F1) ma)) (by decide +kernel) rfl (by decide +kernel) (zd_law8 (618, .invokevirtual 69, 3, 0, []) (List.mem_of_getElem? (i := 30) rfl)) (zd_law8 (621, .pop, 1, 0, []) (List.mem_of_getElem? (i := 31) rfl)) hI1 [(ma : Int)] rfl ⟨zp_o2 h13, trivial⟩ (zl_ask2 hS1 hg1 ho1) hl.1 hf (fun al2 hal2 rn2 P2 F2 H2 locs2 hx2 hI2 hfr2 hok2 hcs2 hB2 => ?_)
  have hS2 := zl_Sfr hS1 h12 h13 hx2 hfr2 (by decide +kernel)
  have hg2 := zl_gfr hS1 hg1 hfr2 (by decide +kernel)
  have hc2 := zl_cfr hS1 hc1 hfr2 (by decide +kernel)
  have hd2 := zl_dfr h12 h13 hd1 hfr2 (by decide +kernel)
  have hi2 := zl_ifr hS1 hi1 hx2 hfr2 (by decide +kernel)
  have b2 : zDoq ma (zp_n F2) (zl_Bm (zp_n F1) ma) (zl_nm (zp_n F1) ma) rn2 := hB2
  obtain ⟨m2, ho2, n2⟩ := b2
  obtain ⟨t0, t1⟩ := ht
  have em : zl_nm (zp_n F1) ma = (zp_n F tp 1).toNat := by
    unfold zl_nm
    rw [m13, ← t0]
  rw [zl_Bm_e hS1.2.2.2.2.2.2.2.1.1, em] at n2
  have e5 := zl_telord (B := fun j => zp_n F tb (2000 + j)) (B' := fun j => zp_n F1 mt (2000 + j)) (fun j hj => (t1 j (by omega)).trans (mmt j).symm) b1.2 n2
  have x71 : zp_n F2 tp 1 = zp_n F1 tp 1 := zp_nf hfr2 hS1.2.2.1.2 (by decide +kernel)
  have z71 : zp_n F1 tp 1 = 0 := b1.1
  have x52 : zp_n F2 rd 2 = zp_n F1 rd 2 := zp_nf hfr2 hS1.2.2.2.2.2.2.2.2.1.2 (by decide +kernel)
  have hq92 : zl_f rd ma (zp_n F2) := x52.trans e5
  clear b1 n2
  have ht2 : zl_t ma tp tb mt (zp_n F2) := ⟨by omega, fun j hj => by omega⟩
  have hR : zl_R xa ma P2 (zp_n F2) := ⟨tn, im, tp, tb, rw_, ri, kp, mt, rd, w1, w2, w3, hS2, hc2, hd2, ht2, hi2, hg2, ho2, hq92⟩
  have h12 := hx2 _ _ h12
  have h13 := hx2 _ _ h13
  refine lv_goto (pc := 622) (tgt := 1372) hC.1 hC.2.1 (zd_law8 (622, .goto 750, 3, 0, []) (List.mem_of_getElem? (i := 32) rfl)) (by decide) ?_
  exact kk P2 F2 H2 locs2 hI2 h12 h13 hR
