/-! a case of the law -/
/-- case 0 -/
theorem zl_c0 {p : Program} {l : Launch} {e : Env} {s : State} {m : MethodId} {args : Array Value} {below : List Frame} {meth : Method} {c : Code} {Q : State → Prop} {w : zk_W} {b L : Nat} {xs : Nat → Int32} (hC : zl_C p s m args c w b L xs) {xa ma j : Nat} (hj : 6 * j + 5 < L) {P : Nat → Option Nat} {F : Nat → va_E} {H : Heap} {locs : List Loc} {cu su : Nat} {ls : Array Slot} (hl : lv_has ls 4 [(0, .ref b), (1, .ref xa), (2, .ref ma), (3, .int (nI (6 * j)))]) (hI : zl_I w s P F H locs) (h12 : P xa = some 12) (h13 : P ma = some 13) (hR : zl_R xa ma P (zp_n F)) (hf : cu + 16 ≤ 600000 ∧ su + 940 ≤ 7302250) (kk : ∀ (P' : Nat → Option Nat) (F' : Nat → va_E) (H' : Heap) (locs' : List Loc), zl_I w s P' F' H' locs' → P' xa = some 12 → P' ma = some 13 → zl_R xa ma P' (zp_n F') → W p l e room_1 s m args below meth c H' locs' (cu + 16) (su + 940) Q (F0 m 1372 ls [])) : W p l e room_1 s m args below meth c H locs cu su Q (F0 m 216 ls []) := by
  have hW : zh_W w := hC.2.2.2.2.2.2.2.2.1
  have hM := hR.1
  have hl0 := lv_at hl 0 rfl
  have hl1 := lv_at hl 1 rfl
  have hl2 := lv_at hl 2 rfl
  have hl3 := lv_at hl 3 rfl
  refine zl_this (pc := 216) (k := 1) (i := 1) (a := xa) hC (zd_law0 (216, .aload_n 1, 1, 0, []) (List.mem_of_getElem? (i := 22) rfl)) rfl hl1 ?_
  refine zl_arg (pc := 217) (j := j) (k := 1) (n := 1) hC hI (by omega) (by decide) hl0 hl3 (zd_law0 (217, .aload_n 0, 1, 0, []) (List.mem_of_getElem? (i := 23) rfl)) (zd_law0 (218, .iload_n 3, 1, 0, []) (List.mem_of_getElem? (i := 24) rfl)) (zd_law0 (219, .iconst 1, 1, 0, []) (List.mem_of_getElem? (i := 25) rfl)) (zd_law0 (220, .iadd, 1, 0, []) (List.mem_of_getElem? (i := 26) rfl)) (zd_law0 (221, .iaload, 1, 0, []) (List.mem_of_getElem? (i := 27) rfl)) ?_
  refine zl_arg (pc := 222) (j := j) (k := 2) (n := 2) hC hI (by omega) (by decide) hl0 hl3 (zd_law0 (222, .aload_n 0, 1, 0, []) (List.mem_of_getElem? (i := 28) rfl)) (zd_law0 (223, .iload_n 3, 1, 0, []) (List.mem_of_getElem? (i := 29) rfl)) (zd_law0 (224, .iconst 2, 1, 0, []) (List.mem_of_getElem? (i := 30) rfl)) (zd_law0 (225, .iadd, 1, 0, []) (List.mem_of_getElem? (i := 31) rfl)) (zd_law0 (226, .iaload, 1, 0, []) (List.mem_of_getElem? (i := 32) rfl)) ?_
  refine zl_arg (pc := 227) (j := j) (k := 3) (n := 3) hC hI (by omega) (by decide) hl0 hl3 (zd_law0 (227, .aload_n 0, 1, 0, []) (List.mem_of_getElem? (i := 33) rfl)) (zd_law0 (228, .iload_n 3, 1, 0, []) (List.mem_of_getElem? (i := 34) rfl)) (zd_law0 (229, .iconst 3, 1, 0, []) (List.mem_of_getElem? (i := 35) rfl)) (zd_law0 (230, .iadd, 1, 0, []) (List.mem_of_getElem? (i := 36) rfl)) (zd_law0 (231, .iaload, 1, 0, []) (List.mem_of_getElem? (i := 37) rfl)) ?_
  refine zl_callp (pc := 232) (how := 0) (idx := 13) (mi := 14) (mcm := 16) (msm := 940) (pl := [601, 115, 602, 603]) hC (zX_rds hW) (by decide +kernel) rfl (by decide +kernel) (zd_law0 (232, .invokevirtual 13, 3, 0, []) (List.mem_of_getElem? (i := 38) rfl)) (zd_law0 (235, .pop, 1, 0, []) (List.mem_of_getElem? (i := 39) rfl)) hI [(xa : Int), zl_y xs j 1, zl_y xs j 2, zl_y xs j 3] rfl ⟨zp_o2 h12, zl_yo, zl_yo, zl_yo, trivial⟩ trivial hl.1 hf (fun al1 hal1 rn1 Pr1 F1 H1 locs1 hxr1 hIr1 hfr1 hok1 hcs1 hB1 => ?_)
  obtain ⟨P1, hPm1⟩ : ∃ z, z = zl_Pm Pr1 := ⟨_, rfl⟩
  have hI1 := zl_Ire hW hIr1
  rw [← hPm1] at hI1
  have hx1 : ∀ b t, P b = some t → P1 b = some t := fun b t h => by rw [hPm1, zl_Pme (hxr1 b t h), hM b t h]
  have hM1 : ∀ b t, P1 b = some t → zl_mt t = t := fun b t h => by rw [hPm1] at h; exact zl_Pmm h
  obtain ⟨-, tn, rd, im, rw_, ri, kp, hS, hv, hi⟩ := hR
  have hS1 := zl_Sfr hS h12 h13 hx1 hfr1 (by decide +kernel)
  have hi1 := zl_ifr hS hi hx1 hfr1 (by decide +kernel)
  have b1 : (¬ (0 ≤ (zl_y xs j 1) ∧ (zl_y xs j 1) ≤ 7 ∧ 0 ≤ (zl_y xs j 2) ∧ (zl_y xs j 2) ≤ 7 ∧ ¬ (zl_y xs j 1) = (zl_y xs j 2) ∧ 0 ≤ (zl_y xs j 3) ∧ (zl_y xs j 3) ≤ 99) → rn1 = -1 ∧ ∀ jq : Nat, zp_n F1 (zp_n F (zp_n F xa 0).toNat 0).toNat (2000 + jq) = zp_n F (zp_n F (zp_n F xa 0).toNat 0).toNat (2000 + jq)) ∧ ((0 ≤ (zl_y xs j 1) ∧ (zl_y xs j 1) ≤ 7 ∧ 0 ≤ (zl_y xs j 2) ∧ (zl_y xs j 2) ≤ 7 ∧ ¬ (zl_y xs j 1) = (zl_y xs j 2) ∧ 0 ≤ (zl_y xs j 3) ∧ (zl_y xs j 3) ≤ 99) → rn1 = zp_n F (zp_n F (zp_n F xa 0).toNat 0).toNat (2000 + (8 * ((zl_y xs j 1)).toNat + ((zl_y xs j 2)).toNat)) ∧ ∀ jq : Nat, zp_n F1 (zp_n F (zp_n F xa 0).toNat 0).toNat (2000 + jq) = if jq = 8 * ((zl_y xs j 1)).toNat + ((zl_y xs j 2)).toNat ∨ jq = 8 * ((zl_y xs j 2)).toNat + ((zl_y xs j 1)).toNat then (zl_y xs j 3) else zp_n F (zp_n F (zp_n F xa 0).toNat 0).toNat (2000 + jq)) := hB1
  rw [hS.1.1, Int.toNat_natCast, hS.2.1.1, Int.toNat_natCast] at b1
  have m59 : ∀ k, zp_n F1 rw_ k = zp_n F rw_ k := fun k => zp_nc hfr1 hS.2.2.2.1.2 (by decide +kernel) k
  have h12 := hx1 _ _ h12
  have h13 := hx1 _ _ h13
  refine zl_this (pc := 236) (k := 2) (i := 2) (a := ma) hC (zd_law1 (236, .aload_n 2, 1, 0, []) (List.mem_of_getElem? (i := 0) rfl)) rfl hl2 ?_
  refine zl_arg (pc := 237) (j := j) (k := 1) (n := 1) hC hI1 (by omega) (by decide) hl0 hl3 (zd_law1 (237, .aload_n 0, 1, 0, []) (List.mem_of_getElem? (i := 1) rfl)) (zd_law1 (238, .iload_n 3, 1, 0, []) (List.mem_of_getElem? (i := 2) rfl)) (zd_law1 (239, .iconst 1, 1, 0, []) (List.mem_of_getElem? (i := 3) rfl)) (zd_law1 (240, .iadd, 1, 0, []) (List.mem_of_getElem? (i := 4) rfl)) (zd_law1 (241, .iaload, 1, 0, []) (List.mem_of_getElem? (i := 5) rfl)) ?_
  refine zl_arg (pc := 242) (j := j) (k := 2) (n := 2) hC hI1 (by omega) (by decide) hl0 hl3 (zd_law1 (242, .aload_n 0, 1, 0, []) (List.mem_of_getElem? (i := 6) rfl)) (zd_law1 (243, .iload_n 3, 1, 0, []) (List.mem_of_getElem? (i := 7) rfl)) (zd_law1 (244, .iconst 2, 1, 0, []) (List.mem_of_getElem? (i := 8) rfl)) (zd_law1 (245, .iadd, 1, 0, []) (List.mem_of_getElem? (i := 9) rfl)) (zd_law1 (246, .iaload, 1, 0, []) (List.mem_of_getElem? (i := 10) rfl)) ?_
  refine zl_arg (pc := 247) (j := j) (k := 3) (n := 3) hC hI1 (by omega) (by decide) hl0 hl3 (zd_law1 (247, .aload_n 0, 1, 0, []) (List.mem_of_getElem? (i := 11) rfl)) (zd_law1 (248, .iload_n 3, 1, 0, []) (List.mem_of_getElem? (i := 12) rfl)) (zd_law1 (249, .iconst 3, 1, 0, []) (List.mem_of_getElem? (i := 13) rfl)) (zd_law1 (250, .iadd, 1, 0, []) (List.mem_of_getElem? (i := 14) rfl)) (zd_law1 (251, .iaload, 1, 0, []) (List.mem_of_getElem? (i := 15) rfl)) ?_
  refine zl_callp (pc := 252) (how := 0) (idx := 17) (mi := 189) (mcm := 0) (msm := 0) (pl := [1581, 128, 1582, 1583]) hC (zX_mrd hW) (by decide +kernel) rfl (by decide +kernel) (zd_law1 (252, .invokevirtual 17, 3, 0, []) (List.mem_of_getElem? (i := 16) rfl)) (zd_law1 (255, .pop, 1, 0, []) (List.mem_of_getElem? (i := 17) rfl)) hI1 [(ma : Int), zl_y xs j 1, zl_y xs j 2, zl_y xs j 3] rfl ⟨zp_o2 h13, zl_yo, zl_yo, zl_yo, trivial⟩ trivial hl.1 hf (fun al2 hal2 rn2 Pr2 F2 H2 locs2 hxr2 hIr2 hfr2 hok2 hcs2 hB2 => ?_)
  obtain ⟨P2, hPm2⟩ : ∃ z, z = zl_Pm Pr2 := ⟨_, rfl⟩
  have hI2 := zl_Ire hW hIr2
  rw [← hPm2] at hI2
  have hx2 : ∀ b t, P1 b = some t → P2 b = some t := fun b t h => by rw [hPm2, zl_Pme (hxr2 b t h), hM1 b t h]
  have hM2 : ∀ b t, P2 b = some t → zl_mt t = t := fun b t h => by rw [hPm2] at h; exact zl_Pmm h
  have hS2 := zl_Sfr hS1 h12 h13 hx2 hfr2 (by decide +kernel)
  have hi2 := zl_ifr hS1 hi1 hx2 hfr2 (by decide +kernel)
  have b2 : (¬ (0 ≤ (zl_y xs j 1) ∧ (zl_y xs j 1) ≤ 7 ∧ 0 ≤ (zl_y xs j 2) ∧ (zl_y xs j 2) ≤ 7 ∧ ¬ (zl_y xs j 1) = (zl_y xs j 2) ∧ 0 ≤ (zl_y xs j 3) ∧ (zl_y xs j 3) ≤ 99) → rn2 = -1 ∧ ∀ jq : Nat, zp_n F2 (zp_n F1 ma 3).toNat (2000 + (jq + 89)) = zp_n F1 (zp_n F1 ma 3).toNat (2000 + (jq + 89))) ∧ ((0 ≤ (zl_y xs j 1) ∧ (zl_y xs j 1) ≤ 7 ∧ 0 ≤ (zl_y xs j 2) ∧ (zl_y xs j 2) ≤ 7 ∧ ¬ (zl_y xs j 1) = (zl_y xs j 2) ∧ 0 ≤ (zl_y xs j 3) ∧ (zl_y xs j 3) ≤ 99) → rn2 = zp_n F1 (zp_n F1 ma 3).toNat (2000 + (89 + (8 * ((zl_y xs j 1)).toNat + ((zl_y xs j 2)).toNat))) ∧ ∀ jq : Nat, zp_n F2 (zp_n F1 ma 3).toNat (2000 + (jq + 89)) = if jq = 8 * ((zl_y xs j 1)).toNat + ((zl_y xs j 2)).toNat ∨ jq = 8 * ((zl_y xs j 2)).toNat + ((zl_y xs j 1)).toNat then (zl_y xs j 3) else zp_n F1 (zp_n F1 ma 3).toNat (2000 + (jq + 89))) := hB2
  rw [hS1.2.2.2.1.1, Int.toNat_natCast] at b2
  have n42 : ∀ k, zp_n F2 rd k = zp_n F1 rd k := fun k => zp_nc hfr2 hS1.2.1.2 (by decide +kernel) k
  obtain ⟨v1, v2, v3, v4⟩ := hv
  have hh : rn1 = rn2 ∧ zl_v rd rw_ (zp_n F2) := by
    by_cases hc : (0 ≤ (zl_y xs j 1) ∧ (zl_y xs j 1) ≤ 7 ∧ 0 ≤ (zl_y xs j 2) ∧ (zl_y xs j 2) ≤ 7 ∧ ¬ (zl_y xs j 1) = (zl_y xs j 2) ∧ 0 ≤ (zl_y xs j 3) ∧ (zl_y xs j 3) ≤ 99)
    · obtain ⟨r1, g1⟩ := b1.2 hc
      obtain ⟨r2, g2⟩ := b2.2 hc
      obtain ⟨i1, e1⟩ := zp_nat hc.1
      obtain ⟨i2, e2⟩ := zp_nat hc.2.2.1
      rw [e1, e2] at hc
      rw [e1, e2, Int.toNat_natCast, Int.toNat_natCast] at r1 r2
      simp only [e1, e2, Int.toNat_natCast] at g1 g2
      refine ⟨?_, fun j hj => ?_, fun r hr => ?_, fun x y hx hy => ?_, fun x hx => ?_⟩
      · rw [r1, r2, m59, show 89 + (8 * i1 + i2) = 8 * i1 + i2 + 89 by omega]
        exact v1 _ (by omega)
      · rw [n42, g1 j, g2 j, m59, v1 j hj]
      · show 0 ≤ zp_n F2 rd (2000 + r) ∧ zp_n F2 rd (2000 + r) ≤ 99
        rw [n42, g1 r]
        split
        · omega
        · exact v2 r hr
      · show zp_n F2 rd (2000 + (8 * x + y)) = zp_n F2 rd (2000 + (8 * y + x))
        rw [n42, n42, g1, g1]
        by_cases hxy : (8 * x + y = 8 * i1 + i2 ∨ 8 * x + y = 8 * i2 + i1)
        · rw [if_pos hxy, if_pos (by omega)]
        · rw [if_neg hxy, if_neg (by omega)]
          exact v3 x y hx hy
      · show zp_n F2 rd (2000 + (8 * x + x)) = 0
        rw [n42, g1, if_neg (by omega)]
        exact v4 x hx
    · obtain ⟨r1, g1⟩ := b1.1 hc
      obtain ⟨r2, g2⟩ := b2.1 hc
      refine ⟨r1.trans r2.symm, fun j hj => ?_, zg_rsc (fun j _ => by rw [n42, g1 j]) ⟨v2, v3, v4⟩⟩
      rw [n42, g1 j, g2 j, m59]
      exact v1 j hj
  have e3 := hh.1
  have hv2 := hh.2
  have hR : zl_R xa ma P2 (zp_n F2) := ⟨hM2, tn, rd, im, rw_, ri, kp, hS2, hv2, hi2⟩
  have h12 := hx2 _ _ h12
  have h13 := hx2 _ _ h13
  refine lv_goto (pc := 256) (tgt := 1372) hC.1 hC.2.1 (zd_law1 (256, .goto 1116, 3, 0, []) (List.mem_of_getElem? (i := 18) rfl)) (by decide) ?_
  exact kk P2 F2 H2 locs2 hI2 h12 h13 hR
