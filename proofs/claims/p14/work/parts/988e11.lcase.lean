/-! a case of the law -/
/-- case 11 -/
theorem zl_c11 {p : Program} {l : Launch} {e : Env} {s : State} {m : MethodId} {args : Array Value} {below : List Frame} {meth : Method} {c : Code} {Q : State → Prop} {w : zk_W} {b L : Nat} {xs : Nat → Int32} (hC : zl_C p s m args c w b L xs) {xa ma j : Nat} (hj : 6 * j + 5 < L) {P : Nat → Option Nat} {F : Nat → va_E} {H : Heap} {locs : List Loc} {cu su : Nat} {ls : Array Slot} (hl : lv_has ls 4 [(0, .ref b), (1, .ref xa), (2, .ref ma), (3, .int (nI (6 * j)))]) (hI : zl_I w s P F H locs) (h12 : P xa = some 12) (h13 : P ma = some 13) (hR : zl_R xa ma P (zp_n F)) (hf : cu + 16 ≤ 600000 ∧ su + 940 ≤ 7302250) (kk : ∀ (P' : Nat → Option Nat) (F' : Nat → va_E) (H' : Heap) (locs' : List Loc), zl_I w s P' F' H' locs' → P' xa = some 12 → P' ma = some 13 → zl_R xa ma P' (zp_n F') → W p l e room_1 s m args below meth c H' locs' (cu + 16) (su + 940) Q (F0 m 1372 ls [])) : W p l e room_1 s m args below meth c H locs cu su Q (F0 m 599 ls []) := by
  have hW : zh_W w := hC.2.2.2.2.2.2.2.2.1
  obtain ⟨A9, Y9, F9, W9, B9, V9, m1, m2, m3, m4, m5, n1, np, Lw, h, hLf, he⟩ := hR
  obtain ⟨nu, ns, nl, ln, hn⟩ := zNum_i h he
  have hl0 := lv_at hl 0 rfl
  have hl1 := lv_at hl 1 rfl
  have hl2 := lv_at hl 2 rfl
  have hl3 := lv_at hl 3 rfl
  refine zl_this (pc := 599) (k := 1) (i := 1) (a := xa) hC (zd_law8 (599, .aload_n 1, 1, 0, []) (List.mem_of_getElem? (i := 19) rfl)) rfl hl1 ?_
  refine zl_callp (pc := 600) (how := 0) (idx := 62) (mi := 39) (mcm := 16) (msm := 940) (pl := [701, 115, 702, 703]) hC (zX_lwc hW A9 Y9 F9 W9 ln) (by decide +kernel) rfl (by decide +kernel) (zd_law8 (600, .invokevirtual 62, 3, 0, []) (List.mem_of_getElem? (i := 20) rfl)) (zd_law8 (603, .pop, 1, 0, []) (List.mem_of_getElem? (i := 21) rfl)) hI [(xa : Int)] rfl ⟨zp_o2 h12, trivial⟩ (zA_lwc h hLf he hn m1 m2 (z0A m3)) hl.1 hf (fun al1 hal1 rn1 P1 F1 H1 locs1 hx1 hI1 hfr1 hok1 hcs1 hB1 => ?_)
  obtain ⟨A8, Y8, F8, W8, d2, d1, d0, d3⟩ := zC_lw m2 m1 hB1
  have m4 := zMVr_kp m4 hfr1 hx1 (by decide +kernel)
  have h12 := hx1 _ _ h12
  have h13 := hx1 _ _ h13
  refine zl_this (pc := 604) (k := 2) (i := 2) (a := ma) hC (zd_law8 (604, .aload_n 2, 1, 0, []) (List.mem_of_getElem? (i := 22) rfl)) rfl hl2 ?_
  refine zl_callp (pc := 605) (how := 0) (idx := 65) (mi := 209) (mcm := 0) (msm := 0) (pl := [1669, 128, 1670, 1671]) hC (zY_lx13 hW (fun j => V9 12 (2000 + j)) ln) (by decide +kernel) rfl (by decide +kernel) (zd_law8 (605, .invokevirtual 65, 3, 0, []) (List.mem_of_getElem? (i := 23) rfl)) (zd_law8 (608, .pop, 1, 0, []) (List.mem_of_getElem? (i := 24) rfl)) hI1 [(ma : Int)] rfl ⟨zp_o2 h13, trivial⟩ (zA_lx m4 m5 h he hn) hl.1 hf (fun al2 hal2 rn2 P2 F2 H2 locs2 hx2 hI2 hfr2 hok2 hcs2 hB2 => ?_)
  obtain ⟨V8, d5, hV⟩ := zMVr_fd (D := [2, 3]) (Dk := [1, 13, 18, 20, 30]) m4 hfr2 hx2 (by decide +kernel)
  have d6 := zR_lw m4 d5 (show zp_0 [(ma : Int)] = B9 0 from m5.symm) hB2
  obtain ⟨e3, e2⟩ := zP_lw (zFull_i h hLf he) hn.2.2.2.1 d3 d6 hV (fun j hj => by
    rw [← zMVr_G d5 (o := 3) (t := 59) (by decide) (Or.inl (by decide))]
    exact zl_b59 hW.1 hI2.1 (zMVr_P d5 (by decide)) j hj)
  have m1 := zMVc_fr d2 d1 hfr2 hx2 (by decide +kernel)
  have hR : zl_R xa ma P2 (zp_n F2) := ⟨A8, Y8, F8, W8, B9, V8, m1, d1, d0.trans m3, d5, m5, e2⟩
  have h12 := hx2 _ _ h12
  have h13 := hx2 _ _ h13
  refine lv_goto (pc := 609) (tgt := 1372) hC.1 hC.2.1 (zd_law8 (609, .goto 763, 3, 0, []) (List.mem_of_getElem? (i := 25) rfl)) (by decide) ?_
  exact kk P2 F2 H2 locs2 hI2 h12 h13 hR
