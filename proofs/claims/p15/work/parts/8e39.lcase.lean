/-! a case of the law -/
/-- case 39 -/
theorem zl_c39 {p : Program} {l : Launch} {e : Env} {s : State} {m : MethodId} {args : Array Value} {below : List Frame} {meth : Method} {c : Code} {Q : State → Prop} {w : zk_W} {b L : Nat} {xs : Nat → Int32} (hC : zl_C p s m args c w b L xs) {xa ma j : Nat} (hj : 6 * j + 5 < L) {P : Nat → Option Nat} {F : Nat → va_E} {H : Heap} {locs : List Loc} {cu su : Nat} {ls : Array Slot} (hl : lv_has ls 4 [(0, .ref b), (1, .ref xa), (2, .ref ma), (3, .int (nI (6 * j)))]) (hI : zl_I w s P F H locs) (h12 : P xa = some 12) (h13 : P ma = some 13) (hR : zl_R xa ma P (zp_n F)) (hf : cu + 16 ≤ 600000 ∧ su + 940 ≤ 7302250) (kk : ∀ (P' : Nat → Option Nat) (F' : Nat → va_E) (H' : Heap) (locs' : List Loc), zl_I w s P' F' H' locs' → P' xa = some 12 → P' ma = some 13 → zl_R xa ma P' (zp_n F') → W p l e room_1 s m args below meth c H' locs' (cu + 16) (su + 940) Q (F0 m 1372 ls [])) : W p l e room_1 s m args below meth c H locs cu su Q (F0 m 1313 ls []) := by
  have hW : zh_W w := hC.2.2.2.2.2.2.2.2.1
  have hl0 := lv_at hl 0 rfl
  have hl1 := lv_at hl 1 rfl
  have hl2 := lv_at hl 2 rfl
  have hl3 := lv_at hl 3 rfl
  refine zl_this (pc := 1313) (k := 1) (i := 1) (a := xa) hC (zd_law22 (1313, .aload_n 1, 1, 0, []) (List.mem_of_getElem? (i := 5) rfl)) rfl hl1 ?_
  refine zl_arg (pc := 1314) (j := j) (k := 1) (n := 1) hC hI (by omega) (by decide) hl0 hl3 (zd_law22 (1314, .aload_n 0, 1, 0, []) (List.mem_of_getElem? (i := 6) rfl)) (zd_law22 (1315, .iload_n 3, 1, 0, []) (List.mem_of_getElem? (i := 7) rfl)) (zd_law22 (1316, .iconst 1, 1, 0, []) (List.mem_of_getElem? (i := 8) rfl)) (zd_law22 (1317, .iadd, 1, 0, []) (List.mem_of_getElem? (i := 9) rfl)) (zd_law22 (1318, .iaload, 1, 0, []) (List.mem_of_getElem? (i := 10) rfl)) ?_
  refine zl_callp (pc := 1319) (how := 0) (idx := 175) (mi := 178) (mcm := 16) (msm := 940) (pl := [1325, 115, 1326, 1327]) hC (zX_bk5 hW) (by decide +kernel) rfl (by decide +kernel) (zd_law22 (1319, .invokevirtual 175, 3, 0, []) (List.mem_of_getElem? (i := 11) rfl)) (zd_law22 (1322, .pop, 1, 0, []) (List.mem_of_getElem? (i := 12) rfl)) hI [(xa : Int), zl_y xs j 1] rfl ⟨zp_o2 h12, zl_yo, trivial⟩ trivial hl.1 hf (fun al1 hal1 rn1 P1 F1 H1 locs1 hx1 hI1 hfr1 hok1 hcs1 hB1 => ?_)
  obtain ⟨tn, im, tp, tb, rw_, ri, kp, mt, rd, w1, w2, w3, hS, hc, hd, ht, hi, hg, ho, hq9⟩ := hR
  have hS1 := zl_Sfr hS h12 h13 hx1 hfr1 (by decide +kernel)
  have hg1 := zl_gfr hS hg hfr1 (by decide +kernel)
  have hq91 := zl_ffr hS.2.2.2.2.2.2.2.2.1.2 h13 hq9 hfr1 (by decide +kernel)
  have ho1 := zl_ofr h13 ho hfr1 (by decide +kernel)
  have hd1 := zl_dfr h12 h13 hd hfr1 (by decide +kernel)
  have ht1 := zl_tfr hS h13 ht hfr1 (by decide +kernel)
  have hi1 := zl_ifr hS hi hx1 hfr1 (by decide +kernel)
  have b1 := hB1 im tn hS.2.1.1 hS.2.1.2 hS.1.1 hS.1.2
  have b1 : (¬ (0 ≤ zl_y xs j 1 ∧ zl_y xs j 1 ≤ 1) → rn1 = -1 ∧ ∀ k, zI_f k → zp_n F1 tn k = zp_n F tn k) ∧ (∀ q : Nat, q < 2 → zl_y xs j 1 = (q : Int) → (zp_n F im (2000 + q) < 0 → rn1 = -2 ∧ ∀ k, zI_f k → zp_n F1 tn k = zp_n F tn k) ∧ (∀ z : Nat, zp_n F im (2000 + q) = (z : Int) → P z = some 93 ∧ rn1 = 0 ∧ ∀ k, zI_f k → zp_n F1 tn k = zp_n F z k)) := b1
  have m61 : ∀ k, zp_n F1 kp k = zp_n F kp k := fun k => zp_nc hfr1 hS.2.2.2.2.2.2.1.2 (by decide +kernel) k
  have m60 : ∀ k, zp_n F1 ri k = zp_n F ri k := fun k => zp_nc hfr1 hS.2.2.2.2.2.1.2 (by decide +kernel) k
  have m59 : ∀ k, zp_n F1 rw_ k = zp_n F rw_ k := fun k => zp_nc hfr1 hS.2.2.2.2.1.2 (by decide +kernel) k
  have h12 := hx1 _ _ h12
  have h13 := hx1 _ _ h13
  refine zl_this (pc := 1323) (k := 2) (i := 2) (a := ma) hC (zd_law22 (1323, .aload_n 2, 1, 0, []) (List.mem_of_getElem? (i := 13) rfl)) rfl hl2 ?_
  refine zl_arg (pc := 1324) (j := j) (k := 1) (n := 1) hC hI1 (by omega) (by decide) hl0 hl3 (zd_law22 (1324, .aload_n 0, 1, 0, []) (List.mem_of_getElem? (i := 14) rfl)) (zd_law22 (1325, .iload_n 3, 1, 0, []) (List.mem_of_getElem? (i := 15) rfl)) (zd_law22 (1326, .iconst 1, 1, 0, []) (List.mem_of_getElem? (i := 16) rfl)) (zd_law22 (1327, .iadd, 1, 0, []) (List.mem_of_getElem? (i := 17) rfl)) (zd_law22 (1328, .iaload, 1, 0, []) (List.mem_of_getElem? (i := 18) rfl)) ?_
  refine zl_callp (pc := 1329) (how := 0) (idx := 178) (mi := 187) (mcm := 0) (msm := 0) (pl := [1573, 128, 1574, 1575]) hC (zX_bk6 hW) (by decide +kernel) rfl (by decide +kernel) (zd_law22 (1329, .invokevirtual 178, 3, 0, []) (List.mem_of_getElem? (i := 19) rfl)) (zd_law22 (1332, .pop, 1, 0, []) (List.mem_of_getElem? (i := 20) rfl)) hI1 [(ma : Int), zl_y xs j 1] rfl ⟨zp_o2 h13, zl_yo, trivial⟩ trivial hl.1 hf (fun al2 hal2 rn2 P2 F2 H2 locs2 hx2 hI2 hfr2 hok2 hcs2 hB2 => ?_)
  have hS2 := zl_Sfr hS1 h12 h13 hx2 hfr2 (by decide +kernel)
  have hg2 := zl_gfr hS1 hg1 hfr2 (by decide +kernel)
  have hq92 := zl_ffr hS1.2.2.2.2.2.2.2.2.1.2 h13 hq91 hfr2 (by decide +kernel)
  have ho2 := zl_ofr h13 ho1 hfr2 (by decide +kernel)
  have hd2 := zl_dfr h12 h13 hd1 hfr2 (by decide +kernel)
  have ht2 := zl_tfr hS1 h13 ht1 hfr2 (by decide +kernel)
  have hi2 := zl_ifr hS1 hi1 hx2 hfr2 (by decide +kernel)
  have b2 := hB2.2 kp ri rw_ hS1.2.2.2.2.2.2.1.1 hS1.2.2.2.2.2.1.1 hS1.2.2.2.2.1.1
  have b2 : (¬ (0 ≤ zl_y xs j 1 ∧ zl_y xs j 1 ≤ 1) → rn2 = -1 ∧ ∀ i : Nat, i < 5 → zp_n F2 rw_ (2000 + i) = zp_n F1 rw_ (2000 + i)) ∧ ∀ q : Nat, q < 2 → zl_y xs j 1 = (q : Int) → (zp_n F1 kp (2000 + q) = 0 → rn2 = -2 ∧ ∀ i : Nat, i < 5 → zp_n F2 rw_ (2000 + i) = zp_n F1 rw_ (2000 + i)) ∧ (¬ zp_n F1 kp (2000 + q) = 0 → rn2 = 0 ∧ ∀ i : Nat, i < 5 → zp_n F2 rw_ (2000 + i) = zp_n F1 ri (2000 + (5580 * q + i))) := b2
  have nt : ∀ k, zI_f k → zp_n F2 tn k = zp_n F1 tn k := fun k hk => by
    rcases hk with rfl | rfl | rfl | rfl | rfl
    · exact zp_nf hfr2 hS1.1.2 (by decide +kernel)
    · exact zp_nf hfr2 hS1.1.2 (by decide +kernel)
    · exact zp_nf hfr2 hS1.1.2 (by decide +kernel)
    · exact zp_nf hfr2 hS1.1.2 (by decide +kernel)
    · exact zp_nf hfr2 hS1.1.2 (by decide +kernel)
  have hh : rn1 = rn2 ∧ zl_c tn rw_ (zp_n F2) := by
    by_cases hy : 0 ≤ zl_y xs j 1 ∧ zl_y xs j 1 ≤ 1
    · obtain ⟨q, hyq⟩ : ∃ q : Nat, zl_y xs j 1 = (q : Int) := zp_nat hy.1
      have hq2 : q < 2 := by omega
      obtain ⟨i1, i2, i3⟩ := hi
      have iq := i1 q hq2
      by_cases hn : zp_n F im (2000 + q) < 0
      · obtain ⟨r1, g1⟩ := (b1.2 q hq2 hyq).1 hn
        have hk0 : zp_n F1 kp (2000 + q) = 0 := by rw [m61]; exact Decidable.of_not_not (fun h => absurd (iq.mpr h) (Int.not_le.mpr hn))
        obtain ⟨r2, g2⟩ := (b2.2 q hq2 hyq).1 hk0
        exact ⟨r1.trans r2.symm, ⟨by rw [nt 1 (Or.inl rfl), g1 1 (Or.inl rfl), g2 0 (by decide), m59]; exact hc.1, by rw [nt 3 (Or.inr (Or.inl rfl)), g1 3 (Or.inr (Or.inl rfl)), g2 1 (by decide), m59]; exact hc.2.1, by rw [nt 9 (Or.inr (Or.inr (Or.inl rfl))), g1 9 (Or.inr (Or.inr (Or.inl rfl))), g2 2 (by decide), m59]; exact hc.2.2.1, by rw [nt 14 (Or.inr (Or.inr (Or.inr (Or.inl rfl)))), g1 14 (Or.inr (Or.inr (Or.inr (Or.inl rfl)))), g2 3 (by decide), m59]; exact hc.2.2.2.1, by rw [nt 15 (Or.inr (Or.inr (Or.inr (Or.inr rfl)))), g1 15 (Or.inr (Or.inr (Or.inr (Or.inr rfl)))), g2 4 (by decide), m59]; exact hc.2.2.2.2⟩⟩
      · obtain ⟨z, hz⟩ := zp_nat (Int.not_lt.mp hn)
        obtain ⟨qz, r1, g1⟩ := (b1.2 q hq2 hyq).2 z hz
        have hk0 : ¬ zp_n F1 kp (2000 + q) = 0 := by rw [m61]; exact iq.mp (Int.not_lt.mp hn)
        obtain ⟨r2, g2⟩ := (b2.2 q hq2 hyq).2 hk0
        obtain ⟨g0, k1, k2, k3, k4, k5⟩ := i2 q z hq2 hz
        exact ⟨r1.trans r2.symm, ⟨by rw [nt 1 (Or.inl rfl), g1 1 (Or.inl rfl), g2 0 (by decide), m60]; exact k1, by rw [nt 3 (Or.inr (Or.inl rfl)), g1 3 (Or.inr (Or.inl rfl)), g2 1 (by decide), m60]; exact k2, by rw [nt 9 (Or.inr (Or.inr (Or.inl rfl))), g1 9 (Or.inr (Or.inr (Or.inl rfl))), g2 2 (by decide), m60]; exact k3, by rw [nt 14 (Or.inr (Or.inr (Or.inr (Or.inl rfl)))), g1 14 (Or.inr (Or.inr (Or.inr (Or.inl rfl)))), g2 3 (by decide), m60]; exact k4, by rw [nt 15 (Or.inr (Or.inr (Or.inr (Or.inr rfl)))), g1 15 (Or.inr (Or.inr (Or.inr (Or.inr rfl)))), g2 4 (by decide), m60]; exact k5⟩⟩
    · obtain ⟨r1, g1⟩ := b1.1 hy
      obtain ⟨r2, g2⟩ := b2.1 hy
      exact ⟨r1.trans r2.symm, ⟨by rw [nt 1 (Or.inl rfl), g1 1 (Or.inl rfl), g2 0 (by decide), m59]; exact hc.1, by rw [nt 3 (Or.inr (Or.inl rfl)), g1 3 (Or.inr (Or.inl rfl)), g2 1 (by decide), m59]; exact hc.2.1, by rw [nt 9 (Or.inr (Or.inr (Or.inl rfl))), g1 9 (Or.inr (Or.inr (Or.inl rfl))), g2 2 (by decide), m59]; exact hc.2.2.1, by rw [nt 14 (Or.inr (Or.inr (Or.inr (Or.inl rfl)))), g1 14 (Or.inr (Or.inr (Or.inr (Or.inl rfl)))), g2 3 (by decide), m59]; exact hc.2.2.2.1, by rw [nt 15 (Or.inr (Or.inr (Or.inr (Or.inr rfl)))), g1 15 (Or.inr (Or.inr (Or.inr (Or.inr rfl)))), g2 4 (by decide), m59]; exact hc.2.2.2.2⟩⟩
  have e3 := hh.1
  have hc2 := hh.2
  have hR : zl_R xa ma P2 (zp_n F2) := ⟨tn, im, tp, tb, rw_, ri, kp, mt, rd, w1, w2, w3, hS2, hc2, hd2, ht2, hi2, hg2, ho2, hq92⟩
  have h12 := hx2 _ _ h12
  have h13 := hx2 _ _ h13
  refine lv_goto (pc := 1333) (tgt := 1372) hC.1 hC.2.1 (zd_law22 (1333, .goto 39, 3, 0, []) (List.mem_of_getElem? (i := 21) rfl)) (by decide) ?_
  exact kk P2 F2 H2 locs2 hI2 h12 h13 hR
