/-! a case of the law -/
/-- case 38 -/
theorem zl_c38 {p : Program} {l : Launch} {e : Env} {s : State} {m : MethodId} {args : Array Value} {below : List Frame} {meth : Method} {c : Code} {Q : State → Prop} {w : zk_W} {b L : Nat} {xs : Nat → Int32} (hC : zl_C p s m args c w b L xs) {xa ma j : Nat} (hj : 6 * j + 5 < L) {P : Nat → Option Nat} {F : Nat → va_E} {H : Heap} {locs : List Loc} {cu su : Nat} {ls : Array Slot} (hl : lv_has ls 4 [(0, .ref b), (1, .ref xa), (2, .ref ma), (3, .int (nI (6 * j)))]) (hI : zl_I w s P F H locs) (h12 : P xa = some 12) (h13 : P ma = some 13) (hR : zl_R xa ma P (zp_n F)) (hf : cu + 16 ≤ 600000 ∧ su + 940 ≤ 7302250) (kk : ∀ (P' : Nat → Option Nat) (F' : Nat → va_E) (H' : Heap) (locs' : List Loc), zl_I w s P' F' H' locs' → P' xa = some 12 → P' ma = some 13 → zl_R xa ma P' (zp_n F') → W p l e room_1 s m args below meth c H' locs' (cu + 16) (su + 940) Q (F0 m 1372 ls [])) : W p l e room_1 s m args below meth c H locs cu su Q (F0 m 1290 ls []) := by
  have hW : zh_W w := hC.2.2.2.2.2.2.2.2.1
  have hl0 := lv_at hl 0 rfl
  have hl1 := lv_at hl 1 rfl
  have hl2 := lv_at hl 2 rfl
  have hl3 := lv_at hl 3 rfl
  refine zl_this (pc := 1290) (k := 1) (i := 1) (a := xa) hC (zd_law21 (1290, .aload_n 1, 1, 0, []) (List.mem_of_getElem? (i := 28) rfl)) rfl hl1 ?_
  refine zl_arg (pc := 1291) (j := j) (k := 1) (n := 1) hC hI (by omega) (by decide) hl0 hl3 (zd_law21 (1291, .aload_n 0, 1, 0, []) (List.mem_of_getElem? (i := 29) rfl)) (zd_law21 (1292, .iload_n 3, 1, 0, []) (List.mem_of_getElem? (i := 30) rfl)) (zd_law21 (1293, .iconst 1, 1, 0, []) (List.mem_of_getElem? (i := 31) rfl)) (zd_law21 (1294, .iadd, 1, 0, []) (List.mem_of_getElem? (i := 32) rfl)) (zd_law21 (1295, .iaload, 1, 0, []) (List.mem_of_getElem? (i := 33) rfl)) ?_
  refine zl_callp (pc := 1296) (how := 0) (idx := 171) (mi := 176) (mcm := 16) (msm := 940) (pl := [1315, 115, 1316, 1317]) hC (zX_im5 hW) (by decide +kernel) rfl (by decide +kernel) (zd_law21 (1296, .invokevirtual 171, 3, 0, []) (List.mem_of_getElem? (i := 34) rfl)) (zd_law21 (1299, .pop, 1, 0, []) (List.mem_of_getElem? (i := 35) rfl)) hI [(xa : Int), zl_y xs j 1] rfl ⟨zp_o2 h12, zl_yo, trivial⟩ trivial hl.1 hf (fun al1 hal1 rn1 P1 F1 H1 locs1 hx1 hI1 hfr1 hok1 hcs1 hB1 => ?_)
  obtain ⟨tn, im, tp, tb, rw_, ri, kp, mt, rd, w1, w2, w3, hS, hc, hd, ht, hi, hg, ho, hq9⟩ := hR
  have hS1 := zl_Sfr hS h12 h13 hx1 hfr1 (by decide +kernel)
  have hg1 := zl_gfr hS hg hfr1 (by decide +kernel)
  have hq91 := zl_ffr hS.2.2.2.2.2.2.2.2.1.2 h13 hq9 hfr1 (by decide +kernel)
  have ho1 := zl_ofr h13 ho hfr1 (by decide +kernel)
  have hc1 := zl_cfr hS hc hfr1 (by decide +kernel)
  have hd1 := zl_dfr h12 h13 hd hfr1 (by decide +kernel)
  have ht1 := zl_tfr hS h13 ht hfr1 (by decide +kernel)
  have b1 := hB1 im tn hS.2.1.1 hS.2.1.2 hS.1.1 hS.1.2
  have b1 : (¬ (0 ≤ zl_y xs j 1 ∧ zl_y xs j 1 ≤ 1) → (∀ i9, i9 < 2 → zp_n F1 im (2000 + i9) = zp_n F im (2000 + i9)) ∧ ∀ x, P x = some 93 → ∀ k, zI_f k → zp_n F1 x k = zp_n F x k) ∧ (∀ q : Nat, q < 2 → zl_y xs j 1 = (q : Int) → ∃ z : Nat, zp_n F1 im (2000 + q) = (z : Int) ∧ P1 z = some 93 ∧ (0 ≤ zp_n F im (2000 + q) → zp_n F im (2000 + q) = (z : Int)) ∧ (zp_n F im (2000 + q) < 0 → P z = none) ∧ (∀ i9, i9 < 2 → i9 ≠ q → zp_n F1 im (2000 + i9) = zp_n F im (2000 + i9)) ∧ (∀ k, zI_f k → zp_n F1 z k = zp_n F tn k) ∧ ∀ x, P x = some 93 → x ≠ z → ∀ k, zI_f k → zp_n F1 x k = zp_n F x k) := b1
  have m61 : ∀ k, zp_n F1 kp k = zp_n F kp k := fun k => zp_nc hfr1 hS.2.2.2.2.2.2.1.2 (by decide +kernel) k
  have m60 : ∀ k, zp_n F1 ri k = zp_n F ri k := fun k => zp_nc hfr1 hS.2.2.2.2.2.1.2 (by decide +kernel) k
  have m59 : ∀ k, zp_n F1 rw_ k = zp_n F rw_ k := fun k => zp_nc hfr1 hS.2.2.2.2.1.2 (by decide +kernel) k
  have hx1o := hx1
  have h12 := hx1 _ _ h12
  have h13 := hx1 _ _ h13
  refine zl_this (pc := 1300) (k := 2) (i := 2) (a := ma) hC (zd_law21 (1300, .aload_n 2, 1, 0, []) (List.mem_of_getElem? (i := 36) rfl)) rfl hl2 ?_
  refine zl_arg (pc := 1301) (j := j) (k := 1) (n := 1) hC hI1 (by omega) (by decide) hl0 hl3 (zd_law21 (1301, .aload_n 0, 1, 0, []) (List.mem_of_getElem? (i := 37) rfl)) (zd_law21 (1302, .iload_n 3, 1, 0, []) (List.mem_of_getElem? (i := 38) rfl)) (zd_law21 (1303, .iconst 1, 1, 0, []) (List.mem_of_getElem? (i := 39) rfl)) (zd_law22 (1304, .iadd, 1, 0, []) (List.mem_of_getElem? (i := 0) rfl)) (zd_law22 (1305, .iaload, 1, 0, []) (List.mem_of_getElem? (i := 1) rfl)) ?_
  refine zl_callp (pc := 1306) (how := 0) (idx := 174) (mi := 185) (mcm := 0) (msm := 0) (pl := [1566, 128, 1567, 1568]) hC (zX_im6 hW) (by decide +kernel) rfl (by decide +kernel) (zd_law22 (1306, .invokevirtual 174, 3, 0, []) (List.mem_of_getElem? (i := 2) rfl)) (zd_law22 (1309, .pop, 1, 0, []) (List.mem_of_getElem? (i := 3) rfl)) hI1 [(ma : Int), zl_y xs j 1] rfl ⟨zp_o2 h13, zl_yo, trivial⟩ trivial hl.1 hf (fun al2 hal2 rn2 P2 F2 H2 locs2 hx2 hI2 hfr2 hok2 hcs2 hB2 => ?_)
  have hS2 := zl_Sfr hS1 h12 h13 hx2 hfr2 (by decide +kernel)
  have hg2 := zl_gfr hS1 hg1 hfr2 (by decide +kernel)
  have hq92 := zl_ffr hS1.2.2.2.2.2.2.2.2.1.2 h13 hq91 hfr2 (by decide +kernel)
  have ho2 := zl_ofr h13 ho1 hfr2 (by decide +kernel)
  have hc2 := zl_cfr hS1 hc1 hfr2 (by decide +kernel)
  have hd2 := zl_dfr h12 h13 hd1 hfr2 (by decide +kernel)
  have ht2 := zl_tfr hS1 h13 ht1 hfr2 (by decide +kernel)
  have b2 := hB2.2 kp ri rw_ hS1.2.2.2.2.2.2.1.1 hS1.2.2.2.2.2.1.1 hS1.2.2.2.2.1.1
  have b2 : (∀ i9 : Nat, i9 < 2 → ((i9 : Int) ≠ zl_y xs j 1 → zp_n F2 kp (2000 + i9) = zp_n F1 kp (2000 + i9)) ∧ ((i9 : Int) = zl_y xs j 1 → zp_n F2 kp (2000 + i9) = 1)) ∧ ∀ q : Nat, q < 2 → ∀ i : Nat, i < 5 → ((q : Int) ≠ zl_y xs j 1 → zp_n F2 ri (2000 + (5580 * q + i)) = zp_n F1 ri (2000 + (5580 * q + i))) ∧ ((q : Int) = zl_y xs j 1 → zp_n F2 ri (2000 + (5580 * q + i)) = zp_n F1 rw_ (2000 + i)) := b2
  obtain ⟨b2a, b2b⟩ := b2
  have n55 : ∀ k, zp_n F2 im k = zp_n F1 im k := fun k => zp_nc hfr2 hS1.2.1.2 (by decide +kernel) k
  obtain ⟨i1, i2, i3⟩ := hi
  have nz : ∀ z k, P1 z = some 93 → zI_f k → zp_n F2 z k = zp_n F1 z k := fun z k h hk => by
    rcases hk with rfl | rfl | rfl | rfl | rfl
    · exact zp_nf hfr2 h (by decide +kernel)
    · exact zp_nf hfr2 h (by decide +kernel)
    · exact zp_nf hfr2 h (by decide +kernel)
    · exact zp_nf hfr2 h (by decide +kernel)
    · exact zp_nf hfr2 h (by decide +kernel)
  have hi2 : zl_i im ri kp P2 (zp_n F2) := by
    by_cases hy : 0 ≤ zl_y xs j 1 ∧ zl_y xs j 1 ≤ 1
    · obtain ⟨q, hyq⟩ : ∃ q : Nat, zl_y xs j 1 = (q : Int) := zp_nat hy.1
      have hq2 : q < 2 := by omega
      obtain ⟨z, z1, z2, z3, z4, z5, z6, z7⟩ := b1.2 q hq2 hyq
      have hne : ∀ k z' : Nat, k < 2 → k ≠ q → zp_n F im (2000 + k) = (z' : Int) → z' ≠ z := fun k z' hk hkq e => by
        rintro rfl
        by_cases hn : zp_n F im (2000 + q) < 0
        · have g1 := (i2 k z' hk e).1
          rw [z4 hn] at g1
          cases g1
        · have g1 := z3 (Int.not_lt.mp hn)
          obtain ⟨rfl, rfl⟩ | ⟨rfl, rfl⟩ : (k = 0 ∧ q = 1) ∨ (k = 1 ∧ q = 0) := by omega
          · exact i3 _ e g1
          · exact i3 _ g1 e
      refine ⟨fun k hk => ?_, fun k z' hk hz => ?_, fun z' hz0 hz1 => ?_⟩
      · by_cases hkq : k = q
        · subst hkq
          rw [n55, z1, (b2a k hk).2 hyq.symm]
          exact ⟨fun _ => by decide, fun _ => by omega⟩
        · rw [n55, z5 k hk hkq, (b2a k hk).1 (by omega), m61]
          exact i1 k hk
      · rw [n55] at hz
        by_cases hkq : k = q
        · subst hkq
          obtain rfl : z = z' := by omega
          refine ⟨hx2 _ _ z2, ?_, ?_, ?_, ?_, ?_⟩
          · rw [nz z 1 z2 (Or.inl rfl), z6 1 (Or.inl rfl), (b2b k hk 0 (by decide)).2 hyq.symm, m59]
            exact hc.1
          · rw [nz z 3 z2 (Or.inr (Or.inl rfl)), z6 3 (Or.inr (Or.inl rfl)), (b2b k hk 1 (by decide)).2 hyq.symm, m59]
            exact hc.2.1
          · rw [nz z 9 z2 (Or.inr (Or.inr (Or.inl rfl))), z6 9 (Or.inr (Or.inr (Or.inl rfl))), (b2b k hk 2 (by decide)).2 hyq.symm, m59]
            exact hc.2.2.1
          · rw [nz z 14 z2 (Or.inr (Or.inr (Or.inr (Or.inl rfl)))), z6 14 (Or.inr (Or.inr (Or.inr (Or.inl rfl)))), (b2b k hk 3 (by decide)).2 hyq.symm, m59]
            exact hc.2.2.2.1
          · rw [nz z 15 z2 (Or.inr (Or.inr (Or.inr (Or.inr rfl)))), z6 15 (Or.inr (Or.inr (Or.inr (Or.inr rfl)))), (b2b k hk 4 (by decide)).2 hyq.symm, m59]
            exact hc.2.2.2.2
        · rw [z5 k hk hkq] at hz
          have hnz := hne k z' hk hkq hz
          obtain ⟨g0, g1, g2, g3, g4, g5⟩ := i2 k z' hk hz
          have g9 := hx1o _ _ g0
          refine ⟨hx2 _ _ g9, ?_, ?_, ?_, ?_, ?_⟩
          · rw [nz z' 1 g9 (Or.inl rfl), z7 z' g0 hnz 1 (Or.inl rfl), (b2b k hk 0 (by decide)).1 (by omega), m60]
            exact g1
          · rw [nz z' 3 g9 (Or.inr (Or.inl rfl)), z7 z' g0 hnz 3 (Or.inr (Or.inl rfl)), (b2b k hk 1 (by decide)).1 (by omega), m60]
            exact g2
          · rw [nz z' 9 g9 (Or.inr (Or.inr (Or.inl rfl))), z7 z' g0 hnz 9 (Or.inr (Or.inr (Or.inl rfl))), (b2b k hk 2 (by decide)).1 (by omega), m60]
            exact g3
          · rw [nz z' 14 g9 (Or.inr (Or.inr (Or.inr (Or.inl rfl)))), z7 z' g0 hnz 14 (Or.inr (Or.inr (Or.inr (Or.inl rfl)))), (b2b k hk 3 (by decide)).1 (by omega), m60]
            exact g4
          · rw [nz z' 15 g9 (Or.inr (Or.inr (Or.inr (Or.inr rfl)))), z7 z' g0 hnz 15 (Or.inr (Or.inr (Or.inr (Or.inr rfl)))), (b2b k hk 4 (by decide)).1 (by omega), m60]
            exact g5
      · rw [n55] at hz0 hz1
        obtain rfl | rfl : q = 0 ∨ q = 1 := by omega
        · rw [z5 1 (by decide) (by decide)] at hz1
          exact hne 1 z' (by decide) (by decide) hz1 (by omega)
        · rw [z5 0 (by decide) (by decide)] at hz0
          exact hne 0 z' (by decide) (by decide) hz0 (by omega)
    · obtain ⟨a1, a2⟩ := b1.1 hy
      refine ⟨fun k hk => ?_, fun k z' hk hz => ?_, fun z' hz0 hz1 => ?_⟩
      · rw [n55, a1 k hk, (b2a k hk).1 (by omega), m61]
        exact i1 k hk
      · rw [n55, a1 k hk] at hz
        obtain ⟨g0, g1, g2, g3, g4, g5⟩ := i2 k z' hk hz
        have g9 := hx1o _ _ g0
        refine ⟨hx2 _ _ g9, ?_, ?_, ?_, ?_, ?_⟩
        · rw [nz z' 1 g9 (Or.inl rfl), a2 z' g0 1 (Or.inl rfl), (b2b k hk 0 (by decide)).1 (by omega), m60]
          exact g1
        · rw [nz z' 3 g9 (Or.inr (Or.inl rfl)), a2 z' g0 3 (Or.inr (Or.inl rfl)), (b2b k hk 1 (by decide)).1 (by omega), m60]
          exact g2
        · rw [nz z' 9 g9 (Or.inr (Or.inr (Or.inl rfl))), a2 z' g0 9 (Or.inr (Or.inr (Or.inl rfl))), (b2b k hk 2 (by decide)).1 (by omega), m60]
          exact g3
        · rw [nz z' 14 g9 (Or.inr (Or.inr (Or.inr (Or.inl rfl)))), a2 z' g0 14 (Or.inr (Or.inr (Or.inr (Or.inl rfl)))), (b2b k hk 3 (by decide)).1 (by omega), m60]
          exact g4
        · rw [nz z' 15 g9 (Or.inr (Or.inr (Or.inr (Or.inr rfl)))), a2 z' g0 15 (Or.inr (Or.inr (Or.inr (Or.inr rfl)))), (b2b k hk 4 (by decide)).1 (by omega), m60]
          exact g5
      · rw [n55, a1 0 (by decide)] at hz0
        rw [n55, a1 1 (by decide)] at hz1
        exact i3 z' hz0 hz1
  have hR : zl_R xa ma P2 (zp_n F2) := ⟨tn, im, tp, tb, rw_, ri, kp, mt, rd, w1, w2, w3, hS2, hc2, hd2, ht2, hi2, hg2, ho2, hq92⟩
  have h12 := hx2 _ _ h12
  have h13 := hx2 _ _ h13
  refine lv_goto (pc := 1310) (tgt := 1372) hC.1 hC.2.1 (zd_law22 (1310, .goto 62, 3, 0, []) (List.mem_of_getElem? (i := 4) rfl)) (by decide) ?_
  exact kk P2 F2 H2 locs2 hI2 h12 h13 hR
