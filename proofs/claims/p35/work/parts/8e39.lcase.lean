/-! a case of the law -/
/-- case 39 -/
theorem zl_c39 {p : Program} {l : Launch} {e : Env} {s : State} {m : MethodId} {args : Array Value} {below : List Frame} {meth : Method} {c : Code} {Q : State → Prop} {w : zk_W} {b L : Nat} {xs : Nat → Int32} (hC : zl_C p s m args c w b L xs) {xa ma j : Nat} (hj : 6 * j + 5 < L) {P : Nat → Option Nat} {F : Nat → va_E} {H : Heap} {locs : List Loc} {cu su : Nat} {ls : Array Slot} (hl : lv_has ls 4 [(0, .ref b), (1, .ref xa), (2, .ref ma), (3, .int (nI (6 * j)))]) (hI : zl_I w s P F H locs) (h12 : P xa = some 12) (h13 : P ma = some 13) (hR : zl_R xa ma P (zp_n F)) (hf : cu + 16 ≤ 600000 ∧ su + 940 ≤ 7302250) (kk : ∀ (P' : Nat → Option Nat) (F' : Nat → va_E) (H' : Heap) (locs' : List Loc), zl_I w s P' F' H' locs' → P' xa = some 12 → P' ma = some 13 → zl_R xa ma P' (zp_n F') → W p l e room_1 s m args below meth c H' locs' (cu + 16) (su + 940) Q (F0 m 1372 ls [])) : W p l e room_1 s m args below meth c H locs cu su Q (F0 m 1313 ls []) := by
  have hW : zh_W w := hC.2.2.2.2.2.2.2.2.1
  have hM := hR.1
  have hl0 := lv_at hl 0 rfl
  have hl1 := lv_at hl 1 rfl
  have hl2 := lv_at hl 2 rfl
  have hl3 := lv_at hl 3 rfl
  refine zl_this (pc := 1313) (k := 1) (i := 1) (a := xa) hC (zd_law22 (1313, .aload_n 1, 1, 0, []) (List.mem_of_getElem? (i := 5) rfl)) rfl hl1 ?_
  refine zl_arg (pc := 1314) (j := j) (k := 1) (n := 1) hC hI (by omega) (by decide) hl0 hl3 (zd_law22 (1314, .aload_n 0, 1, 0, []) (List.mem_of_getElem? (i := 6) rfl)) (zd_law22 (1315, .iload_n 3, 1, 0, []) (List.mem_of_getElem? (i := 7) rfl)) (zd_law22 (1316, .iconst 1, 1, 0, []) (List.mem_of_getElem? (i := 8) rfl)) (zd_law22 (1317, .iadd, 1, 0, []) (List.mem_of_getElem? (i := 9) rfl)) (zd_law22 (1318, .iaload, 1, 0, []) (List.mem_of_getElem? (i := 10) rfl)) ?_
  refine zl_callp (pc := 1319) (how := 0) (idx := 175) (mi := 178) (mcm := 16) (msm := 940) (pl := [1325, 115, 1326, 1327]) hC (zX_bk7 hW) (by decide +kernel) rfl (by decide +kernel) (zd_law22 (1319, .invokevirtual 175, 3, 0, []) (List.mem_of_getElem? (i := 11) rfl)) (zd_law22 (1322, .pop, 1, 0, []) (List.mem_of_getElem? (i := 12) rfl)) hI [(xa : Int), zl_y xs j 1] rfl ⟨zp_o2 h12, zl_yo, trivial⟩ trivial hl.1 hf (fun al1 hal1 rn1 Pr1 F1 H1 locs1 hxr1 hIr1 hfr1 hok1 hcs1 hB1 => ?_)
  obtain ⟨P1, hPm1⟩ : ∃ z, z = zl_Pm Pr1 := ⟨_, rfl⟩
  have hI1 := zl_Ire hW hIr1
  rw [← hPm1] at hI1
  have hx1 : ∀ b t, P b = some t → P1 b = some t := fun b t h => by rw [hPm1, zl_Pme (hxr1 b t h), hM b t h]
  have hM1 : ∀ b t, P1 b = some t → zl_mt t = t := fun b t h => by rw [hPm1] at h; exact zl_Pmm h
  obtain ⟨-, tn, rd, im, rw_, ri, kp, hS, hv, hi⟩ := hR
  have hS1 := zl_Sfr hS h12 h13 hx1 hfr1 (by decide +kernel)
  have hi1 := zl_ifr hS hi hx1 hfr1 (by decide +kernel)
  have b1 := hB1 im tn rd hS.2.2.1.1 hS.2.2.1.2 hS.1.1 hS.1.2 hS.2.1.1 hS.2.1.2
  have b1 : (¬ (0 ≤ (zl_y xs j 1) ∧ (zl_y xs j 1) ≤ 1) → rn1 = -1 ∧ ∀ k, zp_n F1 rd k = zp_n F rd k) ∧ (∀ q : Nat, q < 2 → (zl_y xs j 1) = (q : Int) → (zp_n F im (2000 + q) < 0 → rn1 = -2 ∧ ∀ k, zp_n F1 rd k = zp_n F rd k) ∧ (∀ z rz : Nat, zp_n F im (2000 + q) = (z : Int) → zp_n F z 0 = (rz : Int) → P z = some 93 ∧ rn1 = 0 ∧ ∀ j, j < 64 → zp_n F1 rd (2000 + j) = zp_n F rz (2000 + j))) := b1
  have m61 : ∀ k, zp_n F1 kp k = zp_n F kp k := fun k => zp_nc hfr1 hS.2.2.2.2.2.2 (by decide +kernel) k
  have m60 : ∀ k, zp_n F1 ri k = zp_n F ri k := fun k => zp_nc hfr1 hS.2.2.2.2.1.2 (by decide +kernel) k
  have m59 : ∀ k, zp_n F1 rw_ k = zp_n F rw_ k := fun k => zp_nc hfr1 hS.2.2.2.1.2 (by decide +kernel) k
  have h12 := hx1 _ _ h12
  have h13 := hx1 _ _ h13
  refine zl_this (pc := 1323) (k := 2) (i := 2) (a := ma) hC (zd_law22 (1323, .aload_n 2, 1, 0, []) (List.mem_of_getElem? (i := 13) rfl)) rfl hl2 ?_
  refine zl_arg (pc := 1324) (j := j) (k := 1) (n := 1) hC hI1 (by omega) (by decide) hl0 hl3 (zd_law22 (1324, .aload_n 0, 1, 0, []) (List.mem_of_getElem? (i := 14) rfl)) (zd_law22 (1325, .iload_n 3, 1, 0, []) (List.mem_of_getElem? (i := 15) rfl)) (zd_law22 (1326, .iconst 1, 1, 0, []) (List.mem_of_getElem? (i := 16) rfl)) (zd_law22 (1327, .iadd, 1, 0, []) (List.mem_of_getElem? (i := 17) rfl)) (zd_law22 (1328, .iaload, 1, 0, []) (List.mem_of_getElem? (i := 18) rfl)) ?_
  refine zl_callp (pc := 1329) (how := 0) (idx := 178) (mi := 187) (mcm := 0) (msm := 0) (pl := [1573, 128, 1574, 1575]) hC (zX_bk6 hW) (by decide +kernel) rfl (by decide +kernel) (zd_law22 (1329, .invokevirtual 178, 3, 0, []) (List.mem_of_getElem? (i := 19) rfl)) (zd_law22 (1332, .pop, 1, 0, []) (List.mem_of_getElem? (i := 20) rfl)) hI1 [(ma : Int), zl_y xs j 1] rfl ⟨zp_o2 h13, zl_yo, trivial⟩ trivial hl.1 hf (fun al2 hal2 rn2 Pr2 F2 H2 locs2 hxr2 hIr2 hfr2 hok2 hcs2 hB2 => ?_)
  obtain ⟨P2, hPm2⟩ : ∃ z, z = zl_Pm Pr2 := ⟨_, rfl⟩
  have hI2 := zl_Ire hW hIr2
  rw [← hPm2] at hI2
  have hx2 : ∀ b t, P1 b = some t → P2 b = some t := fun b t h => by rw [hPm2, zl_Pme (hxr2 b t h), hM1 b t h]
  have hM2 : ∀ b t, P2 b = some t → zl_mt t = t := fun b t h => by rw [hPm2] at h; exact zl_Pmm h
  have hS2 := zl_Sfr hS1 h12 h13 hx2 hfr2 (by decide +kernel)
  have hi2 := zl_ifr hS1 hi1 hx2 hfr2 (by decide +kernel)
  have b2 := hB2.2 kp ri rw_ hS1.2.2.2.2.2.1 hS1.2.2.2.2.1.1 hS1.2.2.2.1.1
  have b2 : (¬ (0 ≤ (zl_y xs j 1) ∧ (zl_y xs j 1) ≤ 1) → rn2 = -1 ∧ ∀ i : Nat, i < 5580 → zp_n F2 rw_ (2000 + i) = zp_n F1 rw_ (2000 + i)) ∧ ∀ q : Nat, q < 2 → (zl_y xs j 1) = (q : Int) → (zp_n F1 kp (2000 + q) = 0 → rn2 = -2 ∧ ∀ i : Nat, i < 5580 → zp_n F2 rw_ (2000 + i) = zp_n F1 rw_ (2000 + i)) ∧ (¬ zp_n F1 kp (2000 + q) = 0 → rn2 = 0 ∧ ∀ i : Nat, i < 5580 → zp_n F2 rw_ (2000 + i) = zp_n F1 ri (2000 + (5580 * q + i))) := b2
  have nt : ∀ k, zp_n F2 rd k = zp_n F1 rd k := fun k => zp_nc hfr2 hS1.2.1.2 (by decide +kernel) k
  have hh : rn1 = rn2 ∧ zl_v rd rw_ (zp_n F2) := by
    by_cases hy : 0 ≤ (zl_y xs j 1) ∧ (zl_y xs j 1) ≤ 1
    · obtain ⟨q, hyq⟩ : ∃ q : Nat, (zl_y xs j 1) = (q : Int) := zp_nat hy.1
      have hq2 : q < 2 := by omega
      obtain ⟨i1, i2, i3⟩ := hi
      have iq := i1 q hq2
      by_cases hn : zp_n F im (2000 + q) < 0
      · obtain ⟨r1, g1⟩ := (b1.2 q hq2 hyq).1 hn
        have hk0 : zp_n F1 kp (2000 + q) = 0 := by rw [m61]; exact Decidable.of_not_not (fun h => absurd (iq.mpr h) (Int.not_le.mpr hn))
        obtain ⟨r2, g2⟩ := (b2.2 q hq2 hyq).1 hk0
        exact ⟨r1.trans r2.symm, ⟨fun j hj => by rw [nt, g1, g2 (j + 89) (by omega), m59]; exact hv.1 j hj, zg_rsc (fun j _ => by rw [nt, g1]) hv.2⟩⟩
      · obtain ⟨z, hz⟩ := zp_nat (Int.not_lt.mp hn)
        obtain ⟨qz, rz, f1, f2, f3, f4⟩ := i2 q z hq2 hz
        obtain ⟨-, r1, g1⟩ := (b1.2 q hq2 hyq).2 z rz hz f1
        have hk0 : ¬ zp_n F1 kp (2000 + q) = 0 := by rw [m61]; exact iq.mp (Int.not_lt.mp hn)
        obtain ⟨r2, g2⟩ := (b2.2 q hq2 hyq).2 hk0
        exact ⟨r1.trans r2.symm, fun j hj => by rw [nt, g1 j hj, g2 (j + 89) (by omega), m60]; exact f3 j hj, zg_rsc (fun j hj => by rw [nt, g1 j hj]) f4⟩
    · obtain ⟨r1, g1⟩ := b1.1 hy
      obtain ⟨r2, g2⟩ := b2.1 hy
      exact ⟨r1.trans r2.symm, ⟨fun j hj => by rw [nt, g1, g2 (j + 89) (by omega), m59]; exact hv.1 j hj, zg_rsc (fun j _ => by rw [nt, g1]) hv.2⟩⟩
  have e3 := hh.1
  have hv2 := hh.2
  have hR : zl_R xa ma P2 (zp_n F2) := ⟨hM2, tn, rd, im, rw_, ri, kp, hS2, hv2, hi2⟩
  have h12 := hx2 _ _ h12
  have h13 := hx2 _ _ h13
  refine lv_goto (pc := 1333) (tgt := 1372) hC.1 hC.2.1 (zd_law22 (1333, .goto 39, 3, 0, []) (List.mem_of_getElem? (i := 21) rfl)) (by decide) ?_
  exact kk P2 F2 H2 locs2 hI2 h12 h13 hR
