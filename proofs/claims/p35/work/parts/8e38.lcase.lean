/-! a case of the law -/
/-- case 38 -/
theorem zl_c38 {p : Program} {l : Launch} {e : Env} {s : State} {m : MethodId} {args : Array Value} {below : List Frame} {meth : Method} {c : Code} {Q : State → Prop} {w : zk_W} {b L : Nat} {xs : Nat → Int32} (hC : zl_C p s m args c w b L xs) {xa ma j : Nat} (hj : 6 * j + 5 < L) {P : Nat → Option Nat} {F : Nat → va_E} {H : Heap} {locs : List Loc} {cu su : Nat} {ls : Array Slot} (hl : lv_has ls 4 [(0, .ref b), (1, .ref xa), (2, .ref ma), (3, .int (nI (6 * j)))]) (hI : zl_I w s P F H locs) (h12 : P xa = some 12) (h13 : P ma = some 13) (hR : zl_R xa ma P (zp_n F)) (hf : cu + 16 ≤ 600000 ∧ su + 940 ≤ 7302250) (kk : ∀ (P' : Nat → Option Nat) (F' : Nat → va_E) (H' : Heap) (locs' : List Loc), zl_I w s P' F' H' locs' → P' xa = some 12 → P' ma = some 13 → zl_R xa ma P' (zp_n F') → W p l e room_1 s m args below meth c H' locs' (cu + 16) (su + 940) Q (F0 m 1372 ls [])) : W p l e room_1 s m args below meth c H locs cu su Q (F0 m 1290 ls []) := by
  have hW : zh_W w := hC.2.2.2.2.2.2.2.2.1
  have hM := hR.1
  have hl0 := lv_at hl 0 rfl
  have hl1 := lv_at hl 1 rfl
  have hl2 := lv_at hl 2 rfl
  have hl3 := lv_at hl 3 rfl
  refine zl_this (pc := 1290) (k := 1) (i := 1) (a := xa) hC (zd_law21 (1290, .aload_n 1, 1, 0, []) (List.mem_of_getElem? (i := 28) rfl)) rfl hl1 ?_
  refine zl_arg (pc := 1291) (j := j) (k := 1) (n := 1) hC hI (by omega) (by decide) hl0 hl3 (zd_law21 (1291, .aload_n 0, 1, 0, []) (List.mem_of_getElem? (i := 29) rfl)) (zd_law21 (1292, .iload_n 3, 1, 0, []) (List.mem_of_getElem? (i := 30) rfl)) (zd_law21 (1293, .iconst 1, 1, 0, []) (List.mem_of_getElem? (i := 31) rfl)) (zd_law21 (1294, .iadd, 1, 0, []) (List.mem_of_getElem? (i := 32) rfl)) (zd_law21 (1295, .iaload, 1, 0, []) (List.mem_of_getElem? (i := 33) rfl)) ?_
  refine zl_callp (pc := 1296) (how := 0) (idx := 171) (mi := 176) (mcm := 16) (msm := 940) (pl := [1315, 115, 1316, 1317]) hC (zX_im7 hW) (by decide +kernel) rfl (by decide +kernel) (zd_law21 (1296, .invokevirtual 171, 3, 0, []) (List.mem_of_getElem? (i := 34) rfl)) (zd_law21 (1299, .pop, 1, 0, []) (List.mem_of_getElem? (i := 35) rfl)) hI [(xa : Int), zl_y xs j 1] rfl ⟨zp_o2 h12, zl_yo, trivial⟩ hM hl.1 hf (fun al1 hal1 rn1 Pr1 F1 H1 locs1 hxr1 hIr1 hfr1 hok1 hcs1 hB1 => ?_)
  obtain ⟨P1, hPm1⟩ : ∃ z, z = zl_Pm Pr1 := ⟨_, rfl⟩
  have hI1 := zl_Ire hW hIr1
  rw [← hPm1] at hI1
  have hx1 : ∀ b t, P b = some t → P1 b = some t := fun b t h => by rw [hPm1, zl_Pme (hxr1 b t h), hM b t h]
  have hM1 : ∀ b t, P1 b = some t → zl_mt t = t := fun b t h => by rw [hPm1] at h; exact zl_Pmm h
  obtain ⟨-, tn, rd, im, rw_, ri, kp, hS, hv, hi⟩ := hR
  have hS1 := zl_Sfr hS h12 h13 hx1 hfr1 (by decide +kernel)
  have hv1 := zl_vfr hS hv hfr1 (by decide +kernel)
  have b1 := hB1 im tn rd hS.2.2.1.1 hS.2.2.1.2 hS.1.1 hS.1.2 hS.2.1.1 hS.2.1.2
  have b1 : (¬ (0 ≤ (zl_y xs j 1) ∧ (zl_y xs j 1) ≤ 1) → (∀ j, j < 2 → zp_n F1 im (2000 + j) = zp_n F im (2000 + j)) ∧ (∀ x, P x = some 93 → zp_n F1 x 0 = zp_n F x 0) ∧ ∀ b, P b = some 103 → ∀ k, zp_n F1 b k = zp_n F b k) ∧ (∀ q : Nat, q < 2 → (zl_y xs j 1) = (q : Int) → ∃ z rz : Nat, zp_n F1 im (2000 + q) = (z : Int) ∧ Pr1 z = some 93 ∧ zp_n F1 z 0 = (rz : Int) ∧ Pr1 rz = some 103 ∧ (0 ≤ zp_n F im (2000 + q) → zp_n F im (2000 + q) = (z : Int) ∧ zp_n F z 0 = (rz : Int)) ∧ (zp_n F im (2000 + q) < 0 → P z = none ∧ P rz = none) ∧ (∀ j, j < 2 → j ≠ q → zp_n F1 im (2000 + j) = zp_n F im (2000 + j)) ∧ (∀ j, j < 64 → zp_n F1 rz (2000 + j) = zp_n F rd (2000 + j)) ∧ (∀ x, P x = some 93 → zp_n F1 x 0 = zp_n F x 0) ∧ ∀ b, P b = some 103 → b ≠ rz → ∀ k, zp_n F1 b k = zp_n F b k) := b1
  have m61 : ∀ k, zp_n F1 kp k = zp_n F kp k := fun k => zp_nc hfr1 hS.2.2.2.2.2.2 (by decide +kernel) k
  have m60 : ∀ k, zp_n F1 ri k = zp_n F ri k := fun k => zp_nc hfr1 hS.2.2.2.2.1.2 (by decide +kernel) k
  have m59 : ∀ k, zp_n F1 rw_ k = zp_n F rw_ k := fun k => zp_nc hfr1 hS.2.2.2.1.2 (by decide +kernel) k
  have hx1o := hx1
  have h12 := hx1 _ _ h12
  have h13 := hx1 _ _ h13
  refine zl_this (pc := 1300) (k := 2) (i := 2) (a := ma) hC (zd_law21 (1300, .aload_n 2, 1, 0, []) (List.mem_of_getElem? (i := 36) rfl)) rfl hl2 ?_
  refine zl_arg (pc := 1301) (j := j) (k := 1) (n := 1) hC hI1 (by omega) (by decide) hl0 hl3 (zd_law21 (1301, .aload_n 0, 1, 0, []) (List.mem_of_getElem? (i := 37) rfl)) (zd_law21 (1302, .iload_n 3, 1, 0, []) (List.mem_of_getElem? (i := 38) rfl)) (zd_law21 (1303, .iconst 1, 1, 0, []) (List.mem_of_getElem? (i := 39) rfl)) (zd_law22 (1304, .iadd, 1, 0, []) (List.mem_of_getElem? (i := 0) rfl)) (zd_law22 (1305, .iaload, 1, 0, []) (List.mem_of_getElem? (i := 1) rfl)) ?_
  refine zl_callp (pc := 1306) (how := 0) (idx := 174) (mi := 185) (mcm := 0) (msm := 0) (pl := [1566, 128, 1567, 1568]) hC (zX_im6 hW) (by decide +kernel) rfl (by decide +kernel) (zd_law22 (1306, .invokevirtual 174, 3, 0, []) (List.mem_of_getElem? (i := 2) rfl)) (zd_law22 (1309, .pop, 1, 0, []) (List.mem_of_getElem? (i := 3) rfl)) hI1 [(ma : Int), zl_y xs j 1] rfl ⟨zp_o2 h13, zl_yo, trivial⟩ trivial hl.1 hf (fun al2 hal2 rn2 Pr2 F2 H2 locs2 hxr2 hIr2 hfr2 hok2 hcs2 hB2 => ?_)
  obtain ⟨P2, hPm2⟩ : ∃ z, z = zl_Pm Pr2 := ⟨_, rfl⟩
  have hI2 := zl_Ire hW hIr2
  rw [← hPm2] at hI2
  have hx2 : ∀ b t, P1 b = some t → P2 b = some t := fun b t h => by rw [hPm2, zl_Pme (hxr2 b t h), hM1 b t h]
  have hM2 : ∀ b t, P2 b = some t → zl_mt t = t := fun b t h => by rw [hPm2] at h; exact zl_Pmm h
  have hS2 := zl_Sfr hS1 h12 h13 hx2 hfr2 (by decide +kernel)
  have hv2 := zl_vfr hS1 hv1 hfr2 (by decide +kernel)
  have b2 := hB2.2 kp ri rw_ hS1.2.2.2.2.2.1 hS1.2.2.2.2.1.1 hS1.2.2.2.1.1
  have b2 : (∀ jq : Nat, jq < 2 → ((jq : Int) ≠ (zl_y xs j 1) → zp_n F2 kp (2000 + jq) = zp_n F1 kp (2000 + jq)) ∧ ((jq : Int) = (zl_y xs j 1) → zp_n F2 kp (2000 + jq) = 1)) ∧ ∀ q : Nat, q < 2 → ∀ i : Nat, i < 5580 → ((q : Int) ≠ (zl_y xs j 1) → zp_n F2 ri (2000 + (5580 * q + i)) = zp_n F1 ri (2000 + (5580 * q + i))) ∧ ((q : Int) = (zl_y xs j 1) → zp_n F2 ri (2000 + (5580 * q + i)) = zp_n F1 rw_ (2000 + i)) := b2
  obtain ⟨b2a, b2b⟩ := b2
  have n55 : ∀ k, zp_n F2 im k = zp_n F1 im k := fun k => zp_nc hfr2 hS1.2.2.1.2 (by decide +kernel) k
  obtain ⟨i1, i2, i3⟩ := hi
  have nz : ∀ z, P1 z = some 93 → zp_n F2 z 0 = zp_n F1 z 0 := fun z h => zp_nf hfr2 h (by decide +kernel)
  have nr : ∀ r k, P1 r = some 103 → zp_n F2 r k = zp_n F1 r k := fun r k h => zp_nc hfr2 h (by decide +kernel) k
  have hi2 : zl_i im ri kp P2 (zp_n F2) := by
    by_cases hy : 0 ≤ (zl_y xs j 1) ∧ (zl_y xs j 1) ≤ 1
    · obtain ⟨q, hyq⟩ : ∃ q : Nat, (zl_y xs j 1) = (q : Int) := zp_nat hy.1
      have hq2 : q < 2 := by omega
      obtain ⟨z, rz, z1, z2, z3, z4, z5, z6, z7, z8, z9, za⟩ := b1.2 q hq2 hyq
      have z2 : P1 z = some 93 := by rw [hPm1]; exact zl_Pme z2
      have z4 : P1 rz = some 103 := by rw [hPm1]; exact zl_Pme z4
      have hne : ∀ k z' r' : Nat, k < 2 → k ≠ q → zp_n F im (2000 + k) = (z' : Int) → zp_n F z' 0 = (r' : Int) → r' ≠ rz := fun k z' r' hk hkq e er => by
        rintro rfl
        obtain ⟨g0, r0, g1, g2, -, -⟩ := i2 k z' hk e
        obtain rfl : r0 = r' := by omega
        by_cases hn : zp_n F im (2000 + q) < 0
        · rw [(z6 hn).2] at g2
          cases g2
        · obtain ⟨f1, f2⟩ := z5 (Int.not_lt.mp hn)
          obtain ⟨rfl, rfl⟩ | ⟨rfl, rfl⟩ : (k = 0 ∧ q = 1) ∨ (k = 1 ∧ q = 0) := by omega
          · exact i3 _ _ _ e f1 er f2
          · exact i3 _ _ _ f1 e f2 er
      refine ⟨fun k hk => ?_, fun k z' hk hz => ?_, fun z0 z' r hz0 hz1 hr0 hr1 => ?_⟩
      · by_cases hkq : k = q
        · subst hkq
          rw [n55, z1, (b2a k hk).2 hyq.symm]
          exact ⟨fun _ => by decide, fun _ => by omega⟩
        · rw [n55, z7 k hk hkq, (b2a k hk).1 (by omega), m61]
          exact i1 k hk
      · rw [n55] at hz
        by_cases hkq : k = q
        · subst hkq
          obtain rfl : z = z' := by omega
          have hr : ∀ j, j < 64 → zp_n F2 rz (2000 + j) = zp_n F rd (2000 + j) := fun j hj => (nr rz _ z4).trans (z8 j hj)
          refine ⟨hx2 _ _ z2, rz, (nz z z2).trans z3, hx2 _ _ z4, fun j hj => ?_, zg_rsc hr hv.2⟩
          rw [hr j hj, (b2b k hk (j + 89) (by omega)).2 hyq.symm, m59]
          exact hv.1 j hj
        · rw [z7 k hk hkq] at hz
          obtain ⟨g0, r0, g1, g2, g3, g4⟩ := i2 k z' hk hz
          have hnr := hne k z' r0 hk hkq hz g1
          have g9 := hx1o _ _ g0
          have g8 := hx1o _ _ g2
          have hr : ∀ j, zp_n F2 r0 (2000 + j) = zp_n F r0 (2000 + j) := fun j => (nr r0 _ g8).trans (za r0 g2 hnr _)
          refine ⟨hx2 _ _ g9, r0, (nz z' g9).trans ((z9 z' g0).trans g1), hx2 _ _ g8, fun j hj => ?_, zg_rsc (fun j _ => hr j) g4⟩
          rw [hr j, (b2b k hk (j + 89) (by omega)).1 (by omega), m60]
          exact g3 j hj
      · rw [n55] at hz0 hz1
        obtain rfl | rfl : q = 0 ∨ q = 1 := by omega
        · rw [z7 1 (by decide) (by decide)] at hz1
          have g0 := (i2 1 z' (by decide) hz1).1
          rw [nz z' (hx1o _ _ g0), z9 z' g0] at hr1
          obtain rfl : z0 = z := by omega
          rw [nz z0 z2] at hr0
          exact hne 1 z' r (by decide) (by decide) hz1 hr1 (by omega)
        · rw [z7 0 (by decide) (by decide)] at hz0
          have g0 := (i2 0 z0 (by decide) hz0).1
          rw [nz z0 (hx1o _ _ g0), z9 z0 g0] at hr0
          obtain rfl : z' = z := by omega
          rw [nz z' z2] at hr1
          exact hne 0 z0 r (by decide) (by decide) hz0 hr0 (by omega)
    · obtain ⟨a1, a2, a3⟩ := b1.1 hy
      refine ⟨fun k hk => ?_, fun k z' hk hz => ?_, fun z0 z' r hz0 hz1 hr0 hr1 => ?_⟩
      · rw [n55, a1 k hk, (b2a k hk).1 (by omega), m61]
        exact i1 k hk
      · rw [n55, a1 k hk] at hz
        obtain ⟨g0, r0, g1, g2, g3, g4⟩ := i2 k z' hk hz
        have g9 := hx1o _ _ g0
        have g8 := hx1o _ _ g2
        have hr : ∀ j, zp_n F2 r0 (2000 + j) = zp_n F r0 (2000 + j) := fun j => (nr r0 _ g8).trans (a3 r0 g2 _)
        refine ⟨hx2 _ _ g9, r0, (nz z' g9).trans ((a2 z' g0).trans g1), hx2 _ _ g8, fun j hj => ?_, zg_rsc (fun j _ => hr j) g4⟩
        rw [hr j, (b2b k hk (j + 89) (by omega)).1 (by omega), m60]
        exact g3 j hj
      · rw [n55, a1 0 (by decide)] at hz0
        rw [n55, a1 1 (by decide)] at hz1
        have g0 := (i2 0 z0 (by decide) hz0).1
        have g1 := (i2 1 z' (by decide) hz1).1
        rw [nz z0 (hx1o _ _ g0), a2 z0 g0] at hr0
        rw [nz z' (hx1o _ _ g1), a2 z' g1] at hr1
        exact i3 z0 z' r hz0 hz1 hr0 hr1
  have hR : zl_R xa ma P2 (zp_n F2) := ⟨hM2, tn, rd, im, rw_, ri, kp, hS2, hv2, hi2⟩
  have h12 := hx2 _ _ h12
  have h13 := hx2 _ _ h13
  refine lv_goto (pc := 1310) (tgt := 1372) hC.1 hC.2.1 (zd_law22 (1310, .goto 62, 3, 0, []) (List.mem_of_getElem? (i := 4) rfl)) (by decide) ?_
  exact kk P2 F2 H2 locs2 hI2 h12 h13 hR
