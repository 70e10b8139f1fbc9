/-! a case of the law -/
/-- case 33 -/
theorem zl_c33 {p : Program} {l : Launch} {e : Env} {s : State} {m : MethodId} {args : Array Value} {below : List Frame} {meth : Method} {c : Code} {Q : State → Prop} {w : zk_W} {b L : Nat} {xs : Nat → Int32} (hC : zl_C p s m args c w b L xs) {xa ma j : Nat} (hj : 6 * j + 5 < L) {P : Nat → Option Nat} {F : Nat → va_E} {H : Heap} {locs : List Loc} {cu su : Nat} {ls : Array Slot} (hl : lv_has ls 4 [(0, .ref b), (1, .ref xa), (2, .ref ma), (3, .int (nI (6 * j)))]) (hI : zl_I w s P F H locs) (h12 : P xa = some 12) (h13 : P ma = some 13) (hR : zl_R xa ma P (zp_n F)) (hf : cu + 16 ≤ 600000 ∧ su + 940 ≤ 7302250) (kk : ∀ (P' : Nat → Option Nat) (F' : Nat → va_E) (H' : Heap) (locs' : List Loc), zl_I w s P' F' H' locs' → P' xa = some 12 → P' ma = some 13 → zl_R xa ma P' (zp_n F') → W p l e room_1 s m args below meth c H' locs' (cu + 16) (su + 940) Q (F0 m 1372 ls [])) : W p l e room_1 s m args below meth c H locs cu su Q (F0 m 1155 ls []) := by
  have hW : zh_W w := hC.2.2.2.2.2.2.2.2.1
  have hM := hR.1
  have hl0 := lv_at hl 0 rfl
  have hl1 := lv_at hl 1 rfl
  have hl2 := lv_at hl 2 rfl
  have hl3 := lv_at hl 3 rfl
  refine zl_this (pc := 1155) (k := 1) (i := 1) (a := xa) hC (zd_law19 (1155, .aload_n 1, 1, 0, []) (List.mem_of_getElem? (i := 3) rfl)) rfl hl1 ?_
  refine zl_arg (pc := 1156) (j := j) (k := 1) (n := 1) hC hI (by omega) (by decide) hl0 hl3 (zd_law19 (1156, .aload_n 0, 1, 0, []) (List.mem_of_getElem? (i := 4) rfl)) (zd_law19 (1157, .iload_n 3, 1, 0, []) (List.mem_of_getElem? (i := 5) rfl)) (zd_law19 (1158, .iconst 1, 1, 0, []) (List.mem_of_getElem? (i := 6) rfl)) (zd_law19 (1159, .iadd, 1, 0, []) (List.mem_of_getElem? (i := 7) rfl)) (zd_law19 (1160, .iaload, 1, 0, []) (List.mem_of_getElem? (i := 8) rfl)) ?_
  refine zl_call (rest := []) (pc := 1161) (how := 0) (idx := 151) (mi := 156) (mcm := 16) (msm := 940) (pl := [1220, 115, 1221, 1222]) hC 0 (zX_gds hW) (by decide +kernel) rfl (by decide +kernel) (zd_law19 (1161, .invokevirtual 151, 3, 0, []) (List.mem_of_getElem? (i := 9) rfl)) hI [(xa : Int), zl_y xs j 1] rfl ⟨zp_o2 h12, zl_yo, trivial⟩ trivial hl.1 (Nat.zero_le 8) hf (fun al1 hal1 rn1 Pr1 F1 H1 locs1 hxr1 hIr1 hfr1 hok1 hcs1 hB1 => ?_)
  obtain ⟨P1, hPm1⟩ : ∃ z, z = zl_Pm Pr1 := ⟨_, rfl⟩
  have hI1 := zl_Ire hW hIr1
  rw [← hPm1] at hI1
  have hx1 : ∀ b t, P b = some t → P1 b = some t := fun b t h => by rw [hPm1, zl_Pme (hxr1 b t h), hM b t h]
  have hM1 : ∀ b t, P1 b = some t → zl_mt t = t := fun b t h => by rw [hPm1] at h; exact zl_Pmm h
  obtain ⟨-, tn, rd, im, rw_, ri, kp, hS, hv, hi⟩ := hR
  have hS1 := zl_Sfr hS h12 h13 hx1 hfr1 (by decide +kernel)
  have hv1 := zl_vfr hS hv hfr1 (by decide +kernel)
  have hi1 := zl_ifr hS hi hx1 hfr1 (by decide +kernel)
  have b1 : ∃ best : Nat → Nat, zgb (zgo (fun j => zp_n F (zp_n F (zp_n F xa 0).toNat 0).toNat (2000 + j))) best ∧ best 256 < 256 ∧ ((zl_y xs j 1) = 0 → rn1 = zon (best 256) 10) ∧ ((zl_y xs j 1) = 1 → rn1 = (best 256 : Nat)) ∧ (¬ (0 ≤ (zl_y xs j 1) ∧ (zl_y xs j 1) ≤ 1) → rn1 = -1) := hB1.2.2
  rw [hS.1.1, Int.toNat_natCast, hS.2.1.1, Int.toNat_natCast] at b1
  have m59 : ∀ k, zp_n F1 rw_ k = zp_n F rw_ k := fun k => zp_nc hfr1 hS.2.2.2.1.2 (by decide +kernel) k
  have h12 := hx1 _ _ h12
  have h13 := hx1 _ _ h13
  refine zl_this (pc := 1164) (k := 2) (i := 2) (a := ma) hC (zd_law19 (1164, .aload_n 2, 1, 0, []) (List.mem_of_getElem? (i := 10) rfl)) rfl hl2 ?_
  refine zl_arg (pc := 1165) (j := j) (k := 1) (n := 1) hC hI1 (by omega) (by decide) hl0 hl3 (zd_law19 (1165, .aload_n 0, 1, 0, []) (List.mem_of_getElem? (i := 11) rfl)) (zd_law19 (1166, .iload_n 3, 1, 0, []) (List.mem_of_getElem? (i := 12) rfl)) (zd_law19 (1167, .iconst 1, 1, 0, []) (List.mem_of_getElem? (i := 13) rfl)) (zd_law19 (1168, .iadd, 1, 0, []) (List.mem_of_getElem? (i := 14) rfl)) (zd_law19 (1169, .iaload, 1, 0, []) (List.mem_of_getElem? (i := 15) rfl)) ?_
  refine zl_call (rest := [zk_mk 0 rn1]) (pc := 1170) (how := 0) (idx := 154) (mi := 269) (mcm := 0) (msm := 0) (pl := [1927, 128, 1928, 1929]) hC 0 (zX_mgd hW) (by decide +kernel) rfl (by decide +kernel) (zd_law19 (1170, .invokevirtual 154, 3, 0, []) (List.mem_of_getElem? (i := 16) rfl)) hI1 [(ma : Int), zl_y xs j 1] rfl ⟨zp_o2 h13, zl_yo, trivial⟩ trivial hl.1 (by show 1 + 0 ≤ 8; decide) hf (fun al2 hal2 rn2 Pr2 F2 H2 locs2 hxr2 hIr2 hfr2 hok2 hcs2 hB2 => ?_)
  obtain ⟨P2, hPm2⟩ : ∃ z, z = zl_Pm Pr2 := ⟨_, rfl⟩
  have hI2 := zl_Ire hW hIr2
  rw [← hPm2] at hI2
  have hx2 : ∀ b t, P1 b = some t → P2 b = some t := fun b t h => by rw [hPm2, zl_Pme (hxr2 b t h), hM1 b t h]
  have hM2 : ∀ b t, P2 b = some t → zl_mt t = t := fun b t h => by rw [hPm2] at h; exact zl_Pmm h
  have hS2 := zl_Sfr hS1 h12 h13 hx2 hfr2 (by decide +kernel)
  have hv2 := zl_vfr hS1 hv1 hfr2 (by decide +kernel)
  have hi2 := zl_ifr hS1 hi1 hx2 hfr2 (by decide +kernel)
  have b2 : (¬ (0 ≤ (zl_y xs j 1) ∧ (zl_y xs j 1) ≤ 1) → rn2 = -1) ∧ (0 ≤ (zl_y xs j 1) ∧ (zl_y xs j 1) ≤ 1 → ∃ (fw : Nat → Int) (its : Nat → Nat), zgm (zgp (fun j => zp_n F1 (zp_n F1 ma 3).toNat (2000 + (j + 89)))) fw its ∧ its 256 < 256 ∧ rn2 = if (zl_y xs j 1) = 0 then fw 256 else (its 256 : Nat)) := hB2.2.2
  rw [hS1.2.2.2.1.1, Int.toNat_natCast] at b2
  have e3 : rn1 = rn2 := by
    obtain ⟨best, c1, c2, c3, c4, c5⟩ := b1
    by_cases hy : 0 ≤ (zl_y xs j 1) ∧ (zl_y xs j 1) ≤ 1
    · obtain ⟨fw, its, d1, d2, d3⟩ := b2.2 hy
      have hq : ∀ s, zgp (fun j => zp_n F1 rw_ (2000 + (j + 89))) s ↔ zgo (fun j => zp_n F rd (2000 + j)) s := fun s => by
        rw [zg_op hv.2 s]
        constructor
        · intro h x z hx hz hn
          exact h x z hx hz (by show ¬ zp_n F1 rw_ (2000 + (8 * x + z + 89)) = 0; rw [m59, ← hv.1 (8 * x + z) (by omega)]; exact hn)
        · intro h x z hx hz hn
          exact h x z hx hz (by show ¬ zp_n F rd (2000 + (8 * x + z)) = 0; rw [hv.1 (8 * x + z) (by omega), ← m59]; exact hn)
      have d1 : zgm (zgo (fun j => zp_n F rd (2000 + j))) fw its := by
        obtain ⟨z0, z1, z2⟩ := d1
        exact ⟨z0, z1, fun n hn => ⟨fun h => (z2 n hn).1 ⟨h.1, (hq n).mpr h.2⟩, fun h => (z2 n hn).2 (fun z => h ⟨z.1, (hq n).mp z.2⟩)⟩⟩
      have h255 : zgo (fun j => zp_n F rd (2000 + j)) 255 := fun r hr _ => zgh_all r hr
      obtain ⟨k1, k2, k3⟩ := zg_same h255 c1 d1
      by_cases h0 : (zl_y xs j 1) = 0
      · rw [c3 h0, d3, if_pos h0, k2, k1]
      · rw [c4 (by omega), d3, if_neg h0, k1]
    · rw [c5 hy, b2.1 hy]
  have hR : zl_R xa ma P2 (zp_n F2) := ⟨hM2, tn, rd, im, rw_, ri, kp, hS2, hv2, hi2⟩
  have h12 := hx2 _ _ h12
  have h13 := hx2 _ _ h13
  refine lv_icmp_eq (pc := 1173) (tgt := 1372) hC.1 hC.2.1 (zd_law19 (1173, .if_icmp .eq 199, 3, 0, []) (List.mem_of_getElem? (i := 17) rfl)) (by decide) (fun _ => ?_) (fun h => absurd (by rw [e3]) h)
  exact kk P2 F2 H2 locs2 hI2 h12 h13 hR
