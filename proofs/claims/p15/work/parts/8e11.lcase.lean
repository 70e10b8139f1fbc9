/-! a case of the law -/
/-- case 11 -/
theorem zl_c11 {p : Program} {l : Launch} {e : Env} {s : State} {m : MethodId} {args : Array Value} {below : List Frame} {meth : Method} {c : Code} {Q : State → Prop} {w : zk_W} {b L : Nat} {xs : Nat → Int32} (hC : zl_C p s m args c w b L xs) {xa ma j : Nat} (hj : 6 * j + 5 < L) {P : Nat → Option Nat} {F : Nat → va_E} {H : Heap} {locs : List Loc} {cu su : Nat} {ls : Array Slot} (hl : lv_has ls 4 [(0, .ref b), (1, .ref xa), (2, .ref ma), (3, .int (nI (6 * j)))]) (hI : zl_I w s P F H locs) (h12 : P xa = some 12) (h13 : P ma = some 13) (hR : zl_R xa ma P (zp_n F)) (hf : cu + 16 ≤ 600000 ∧ su + 940 ≤ 7302250) (kk : ∀ (P' : Nat → Option Nat) (F' : Nat → va_E) (H' : Heap) (locs' : List Loc), zl_I w s P' F' H' locs' → P' xa = some 12 → P' ma = some 13 → zl_R xa ma P' (zp_n F') → W p l e room_1 s m args below meth c H' locs' (cu + 16) (su + 940) Q (F0 m 1372 ls [])) : W p l e room_1 s m args below meth c H locs cu su Q (F0 m 599 ls []) := by
  have hW : zh_W w := hC.2.2.2.2.2.2.2.2.1
  have hl0 := lv_at hl 0 rfl
  have hl1 := lv_at hl 1 rfl
  have hl2 := lv_at hl 2 rfl
  have hl3 := lv_at hl 3 rfl
  refine zl_this (pc := 599) (k := 1) (i := 1) (a := xa) hC (zd_law8 (599, .aload_n 1, 1, 0, []) (List.mem_of_getElem? (i := 19) rfl)) rfl hl1 ?_
  refine zl_callp (pc := 600) (how := 0) (idx := 62) (mi := 39) (mcm := 16) (msm := 940) (pl := [701, 115, 702, 703]) hC (zX_clw hW (zl_Bc (zp_n F) xa) (zl_nc (zp_n F) xa)) (by decide +kernel) rfl (by decide +kernel) (zd_law8 (600, .invokevirtual 62, 3, 0, []) (List.mem_of_getElem? (i := 20) rfl)) (zd_law8 (603, .pop, 1, 0, []) (List.mem_of_getElem? (i := 21) rfl)) hI [(xa : Int)] rfl ⟨zp_o2 h12, trivial⟩ (zl_ask1 hW.1 hI.1 hR) hl.1 hf (fun al1 hal1 rn1 P1 F1 H1 locs1 hx1 hI1 hfr1 hok1 hcs1 hB1 => ?_)
  have hk6 : ∃ tn : Nat, zp_n F xa 0 = (tn : Int) ∧ zp_n F tn 14 ≤ 6 := zl_k6 hW.1 hI.1 h12
  obtain ⟨tn, im, tp, tb, rw_, ri, kp, mt, rd, w1, w2, w3, hS, hc, hd, ht, hi, hg, ho, hq9⟩ := hR
  have hS1 := zl_Sfr hS h12 h13 hx1 hfr1 (by decide +kernel)
  have hg1 := zl_gfr hS hg hfr1 (by decide +kernel)
  have ho1 := zl_ofr h13 ho hfr1 (by decide +kernel)
  have hd1 := zl_dfr h12 h13 hd hfr1 (by decide +kernel)
  have hi1 := zl_ifr hS hi hx1 hfr1 (by decide +kernel)
  have x11 : zp_n F1 tn 1 = zp_n F tn 1 := zp_nf hfr1 hS.1.2 (by decide +kernel)
  have x13 : zp_n F1 tn 3 = zp_n F tn 3 := zp_nf hfr1 hS.1.2 (by decide +kernel)
  have x19 : zp_n F1 tn 9 = zp_n F tn 9 := zp_nf hfr1 hS.1.2 (by decide +kernel)
  have x115 : zp_n F1 tn 15 = zp_n F tn 15 := zp_nf hfr1 hS.1.2 (by decide +kernel)
  have y10 : zp_n F1 rw_ (2000 + 0) = zp_n F rw_ (2000 + 0) := zp_ne hfr1 hS.2.2.2.2.1.2 (by decide +kernel)
  have y11 : zp_n F1 rw_ (2000 + 1) = zp_n F rw_ (2000 + 1) := zp_ne hfr1 hS.2.2.2.2.1.2 (by decide +kernel)
  have y12 : zp_n F1 rw_ (2000 + 2) = zp_n F rw_ (2000 + 2) := zp_ne hfr1 hS.2.2.2.2.1.2 (by decide +kernel)
  have y13 : zp_n F1 rw_ (2000 + 3) = zp_n F rw_ (2000 + 3) := zp_ne hfr1 hS.2.2.2.2.1.2 (by decide +kernel)
  have y14 : zp_n F1 rw_ (2000 + 4) = zp_n F rw_ (2000 + 4) := zp_ne hfr1 hS.2.2.2.2.1.2 (by decide +kernel)
  have b1 : zψ_clw (zl_Bc (zp_n F) xa) (zl_nc (zp_n F) xa) P (zp_n F) [(xa : Int)] P1 (zp_n F1) rn1 := hB1
  have b1 := zl_tl1 b1 hS.1.1 hS.2.2.1.1 hS.2.2.2.2.2.2.2.2.1.1
  rw [zl_Bc_e hS.2.2.1.1 hS.2.2.2.1.1, zl_nc_e hS.2.2.1.1] at b1
  have hk : zp_n F tn 14 ≤ 6 := by
    obtain ⟨t9, h9, k9⟩ := hk6
    obtain rfl : t9 = tn := by have := hS.1.1; omega
    exact k9
  have m13 : zp_n F1 ma 13 = zp_n F ma 13 := zp_nf hfr1 h13 (by decide +kernel)
  have m18 : zp_n F1 ma 18 = zp_n F ma 18 := zp_nf hfr1 h13 (by decide +kernel)
  have mmt : ∀ j, zp_n F1 mt (2000 + j) = zp_n F mt (2000 + j) := fun j => zp_nc hfr1 hS.2.2.2.2.2.2.2.1.2 (by decide +kernel) _
  have h12 := hx1 _ _ h12
  have h13 := hx1 _ _ h13
  refine zl_this (pc := 604) (k := 2) (i := 2) (a := ma) hC (zd_law8 (604, .aload_n 2, 1, 0, []) (List.mem_of_getElem? (i := 22) rfl)) rfl hl2 ?_
  refine zl_callp (pc := 605) (how := 0) (idx := 65) (mi := 209) (mcm := 0) (msm := 0) (pl := [1669, 128, 1670, 1671]) hC (zY_lw13 hW (zl_Bm (zp_n F1) ma) (zl_nm (zp_n F1) ma)) (by decide +kernel) rfl (by decide +kernel) (zd_law8 (605, .invokevirtual 65, 3, 0, []) (List.mem_of_getElem? (i := 23) rfl)) (zd_law8 (608, .pop, 1, 0, []) (List.mem_of_getElem? (i := 24) rfl)) hI1 [(ma : Int)] rfl ⟨zp_o2 h13, trivial⟩ (zl_ask2 hS1 hg1 ho1) hl.1 hf (fun al2 hal2 rn2 P2 F2 H2 locs2 hx2 hI2 hfr2 hok2 hcs2 hB2 => ?_)
  have hS2 := zl_Sfr hS1 h12 h13 hx2 hfr2 (by decide +kernel)
  have hg2 := zl_gfr hS1 hg1 hfr2 (by decide +kernel)
  have hd2 := zl_dfr h12 h13 hd1 hfr2 (by decide +kernel)
  have hi2 := zl_ifr hS1 hi1 hx2 hfr2 (by decide +kernel)
  have x21 : zp_n F2 tn 1 = zp_n F1 tn 1 := zp_nf hfr2 hS1.1.2 (by decide +kernel)
  have x23 : zp_n F2 tn 3 = zp_n F1 tn 3 := zp_nf hfr2 hS1.1.2 (by decide +kernel)
  have x29 : zp_n F2 tn 9 = zp_n F1 tn 9 := zp_nf hfr2 hS1.1.2 (by decide +kernel)
  have x214 : zp_n F2 tn 14 = zp_n F1 tn 14 := zp_nf hfr2 hS1.1.2 (by decide +kernel)
  have x215 : zp_n F2 tn 15 = zp_n F1 tn 15 := zp_nf hfr2 hS1.1.2 (by decide +kernel)
  have y20 : zp_n F2 rw_ (2000 + 0) = zp_n F1 rw_ (2000 + 0) := zp_ne hfr2 hS1.2.2.2.2.1.2 (by decide +kernel)
  have y21 : zp_n F2 rw_ (2000 + 1) = zp_n F1 rw_ (2000 + 1) := zp_ne hfr2 hS1.2.2.2.2.1.2 (by decide +kernel)
  have y22 : zp_n F2 rw_ (2000 + 2) = zp_n F1 rw_ (2000 + 2) := zp_ne hfr2 hS1.2.2.2.2.1.2 (by decide +kernel)
  have y24 : zp_n F2 rw_ (2000 + 4) = zp_n F1 rw_ (2000 + 4) := zp_ne hfr2 hS1.2.2.2.2.1.2 (by decide +kernel)
  have b2 : zDl ma (zp_n F1) (zp_n F2) (zl_Bm (zp_n F1) ma) (zl_nm (zp_n F1) ma) rn2 := hB2
  have n2 := zDl_num b2 hS1.2.2.2.2.1.1 hS2.2.2.2.2.1.1
  obtain ⟨t0, t1⟩ := ht
  obtain ⟨c0, c1, c2, c3, c4⟩ := hc
  have em : zl_nm (zp_n F1) ma = (zp_n F tp 1).toNat := by
    unfold zl_nm
    rw [m13, ← t0]
  rw [zl_Bm_e hS1.2.2.2.2.2.2.2.1.1, em, y13, ← c3] at n2
  obtain ⟨e3, e4, e5⟩ := zl_tellaw (B := fun j => zp_n F tb (2000 + j)) (B' := fun j => zp_n F1 mt (2000 + j)) (fun j hj => (t1 j (by omega)).trans (mmt j).symm) hk b1.2 n2
  have x71 : zp_n F2 tp 1 = zp_n F1 tp 1 := zp_nf hfr2 hS1.2.2.1.2 (by decide +kernel)
  have m2 : zp_n F2 ma 13 = 0 := b2.1
  have z71 : zp_n F1 tp 1 = 0 := b1.1
  have ho2 : zl_o ma (zp_n F2) := b2.2.1
  have e5 := e5 (hq9.trans m18.symm)
  have x52 : zp_n F2 rd 2 = zp_n F1 rd 2 := zp_nf hfr2 hS1.2.2.2.2.2.2.2.2.1.2 (by decide +kernel)
  have hq92 : zl_f rd ma (zp_n F2) := x52.trans e5
  clear b1 b2 n2
  have hc2 : zl_c tn rw_ (zp_n F2) := ⟨by omega, by omega, by omega, by omega, by omega⟩
  have ht2 : zl_t ma tp tb mt (zp_n F2) := ⟨by omega, fun j hj => by omega⟩
  have hR : zl_R xa ma P2 (zp_n F2) := ⟨tn, im, tp, tb, rw_, ri, kp, mt, rd, w1, w2, w3, hS2, hc2, hd2, ht2, hi2, hg2, ho2, hq92⟩
  have h12 := hx2 _ _ h12
  have h13 := hx2 _ _ h13
  refine lv_goto (pc := 609) (tgt := 1372) hC.1 hC.2.1 (zd_law8 (609, .goto 763, 3, 0, []) (List.mem_of_getElem? (i := 25) rfl)) (by decide) ?_
  exact kk P2 F2 H2 locs2 hI2 h12 h13 hR
