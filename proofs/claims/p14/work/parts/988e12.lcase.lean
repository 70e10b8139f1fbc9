/-! a case of the law -/
/-- case 12 -/
theorem zl_c12 {p : Program} {l : Launch} {e : Env} {s : State} {m : MethodId} {args : Array Value} {below : List Frame} {meth : Method} {c : Code} {Q : State → Prop} {w : zk_W} {b L : Nat} {xs : Nat → Int32} (hC : zl_C p s m args c w b L xs) {xa ma j : Nat} (hj : 6 * j + 5 < L) {P : Nat → Option Nat} {F : Nat → va_E} {H : Heap} {locs : List Loc} {cu su : Nat} {ls : Array Slot} (hl : lv_has ls 4 [(0, .ref b), (1, .ref xa), (2, .ref ma), (3, .int (nI (6 * j)))]) (hI : zl_I w s P F H locs) (h12 : P xa = some 12) (h13 : P ma = some 13) (hR : zl_R xa ma P (zp_n F)) (hf : cu + 16 ≤ 600000 ∧ su + 940 ≤ 7302250) (kk : ∀ (P' : Nat → Option Nat) (F' : Nat → va_E) (H' : Heap) (locs' : List Loc), zl_I w s P' F' H' locs' → P' xa = some 12 → P' ma = some 13 → zl_R xa ma P' (zp_n F') → W p l e room_1 s m args below meth c H' locs' (cu + 16) (su + 940) Q (F0 m 1372 ls [])) : W p l e room_1 s m args below meth c H locs cu su Q (F0 m 612 ls []) := by
  have hW : zh_W w := hC.2.2.2.2.2.2.2.2.1
  obtain ⟨A9, Y9, F9, W9, B9, V9, m1, m2, m3, m4, m5, n1, np, Lw, h, hLf, he⟩ := hR
  obtain ⟨nu, ns, nl, ln, hn⟩ := zNum_i h he
  have hl0 := lv_at hl 0 rfl
  have hl1 := lv_at hl 1 rfl
  have hl2 := lv_at hl 2 rfl
  have hl3 := lv_at hl 3 rfl
  refine zl_this (pc := 612) (k := 1) (i := 1) (a := xa) hC (zd_law8 (612, .aload_n 1, 1, 0, []) (List.mem_of_getElem? (i := 26) rfl)) rfl hl1 ?_
  refine zl_call (rest := []) (pc := 613) (how := 0) (idx := 66) (mi := 79) (mcm := 16) (msm := 940) (pl := [885, 115, 886, 887]) hC 0 (zX_orc hW A9 Y9 F9 W9 ln n1 np Lw) (by decide +kernel) rfl (by decide +kernel) (zd_law8 (613, .invokevirtual 66, 3, 0, []) (List.mem_of_getElem? (i := 27) rfl)) hI [(xa : Int)] rfl ⟨zp_o2 h12, trivial⟩ (zA_orc h hLf he hn m1 m2 (z0A m3)) hl.1 (Nat.zero_le 8) hf (fun al1 hal1 rn1 P1 F1 H1 locs1 hx1 hI1 hfr1 hok1 hcs1 hB1 => ?_)
  obtain ⟨d1, s1, W8, d2, d3, d4⟩ := hB1
  have m4 := zMVr_kp m4 hfr1 hx1 (by decide +kernel)
  have h12 := hx1 _ _ h12
  have h13 := hx1 _ _ h13
  refine zl_this (pc := 616) (k := 2) (i := 2) (a := ma) hC (zd_law8 (616, .aload_n 2, 1, 0, []) (List.mem_of_getElem? (i := 28) rfl)) rfl hl2 ?_
  refine zl_call (rest := [zk_mk 0 rn1]) (pc := 617) (how := 0) (idx := 69) (mi := 287) (mcm := 0) (msm := 0) (pl := [2000, 128, 2001, 2002]) hC 0 (zX_orx13 hW B9 V9 ln nu n1 np (fun j => V9 12 (2000 + j)) Lw) (by decide +kernel) rfl (by decide +kernel) (zd_law8 (617, .invokevirtual 69, 3, 0, []) (List.mem_of_getElem? (i := 29) rfl)) hI1 [(ma : Int)] rfl ⟨zp_o2 h13, trivial⟩ (zA_orx13 h hLf he hn m4 (z0A m5)) hl.1 (by show 1 + 0 ≤ 8; decide) hf (fun al2 hal2 rn2 P2 F2 H2 locs2 hx2 hI2 hfr2 hok2 hcs2 hB2 => ?_)
  obtain ⟨d5, s2, V8, d6, d7, d8⟩ := hB2
  obtain ⟨q1, q2, q3⟩ := zP_or h hLf he hn.1.1 hn.2.2.2.1 d2 d7 d3 d6
  subst q1
  have fin : rn1 = rn2 ∧ zl_R xa ma P2 (zp_n F2) := by
    rcases d4 with ⟨q, r1, r2, r3, r4⟩ | ⟨L, r1, r2, r3, r4⟩
    · rcases d8 with ⟨q9, t1, t2, t3, t4⟩ | ⟨L9, z9, t1, -⟩
      · rw [r1] at t1
        cases t1
        exact ⟨r3.trans t3.symm, A9, Y9, F9, _, B9, _, zMVc_fr r4 m2 hfr2 hx2 (by decide +kernel), m2, m3, t4, m5, q2 q r2 t2⟩
      · rw [r1] at t1
        cases t1
    · rcases d8 with ⟨q9, t1, -⟩ | ⟨L9, z9, t1, t2, t3, t4⟩
      · rw [r1] at t1
        cases t1
      · rw [r1] at t1
        cases t1
        obtain ⟨u1, u2⟩ := q3 L z9 r1 r2 t2
        exact ⟨r3.trans (u1.trans t4.symm), A9, Y9, F9, _, B9, _, zMVc_fr r4 m2 hfr2 hx2 (by decide +kernel), m2, m3, t3, m5, u2⟩
  obtain ⟨e3, hR⟩ := fin
  have h12 := hx2 _ _ h12
  have h13 := hx2 _ _ h13
  refine lv_icmp_eq (pc := 620) (tgt := 1372) hC.1 hC.2.1 (zd_law8 (620, .if_icmp .eq 752, 3, 0, []) (List.mem_of_getElem? (i := 30) rfl)) (by decide) (fun _ => ?_) (fun h => absurd (by rw [e3]) h)
  exact kk P2 F2 H2 locs2 hI2 h12 h13 hR
