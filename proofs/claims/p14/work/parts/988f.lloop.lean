/-! part 8f: the law's start and loop -/
noncomputable def zl_Kl : zk_K := (x, code, 4, ret, 0, 0, [], [], [], (2048, 84000, 600000, 7302250))
noncomputable def zl_lk : List (zk_L × List Nat) := [((3, 7, 11, 20, 0), [136, 137, 115]), ((3, 10, 12, 64, 0), [1337, 1338, 128])]
noncomputable def zl_lc : List ((Nat × Nat × Nat) × List Nat) := [((2, 9, 0), [138, 115, 139]), ((2, 12, 181), [1339, 128, 1340])]
theorem zl_lks : zl_lk.all (zt_lkb "WoundTownLaw") = true := by decide +kernel
theorem zl_lcs : zl_lc.all (zt_lcb "WoundTownLaw") = true := by decide +kernel
noncomputable def zl_E : zk_Ev := (zt_types, zl_lk.map (fun r => r.1), zt_dv, [zK_3015, zK_3100], [0, 181], zl_lc.map (fun r => r.1), zl_Kl)
noncomputable def zl_CL : List zk_Ci := [(0, .new 7, 3, 0, []), (3, .dup, 1, 0, []), (4, .invokespecial 9, 3, 0, []), (7, .astore_n 1, 1, 0, []), (8, .new 10, 3, 0, []), (11, .dup, 1, 0, []), (12, .invokespecial 12, 3, 1, []), (15, .astore_n 2, 1, 0, []), (16, .iconst 0, 1, 0, []), (17, .istore_n 3, 1, 0, [])]
theorem zl_dCL : ∀ q ∈ zl_CL, decode code q.1 = .ok (q.2.1, q.2.2.1) := by decide +kernel
noncomputable def zl_k0 : zk_C := (zk_V0 ++ [(3, 0, 0, 0)], [], [], [], [(0, (3, 0))], [(0, 3)], [])
noncomputable def zl_A4 : zk_An := (4, ([(0, 0, 0, 0), (1, 0, 0, 0), (2, 0, (-1), (-1)), (3, 0, 0, 0), (3, 0, 0, 0)], [], [], [(4, 11, [(2, 0), (2, 0), (2, 0), (2, 0), (2, 0), (2, 0), (2, 0), (2, 0), (2, 0), (2, 0), (2, 0), (2, 0), (2, 0), (0, 0), (0, 0), (0, 0), (2, 0), (0, 0), (0, 0), (2, 0)])], [(0, (3, 0))], [(0, 3)], []), [(4, 0), (4, 0)], 1, 20, (0, []))
noncomputable def zl_O7 : zk_O := (7, ([(0, 0, 0, 0), (1, 0, 0, 0), (2, 0, (-1), (-1)), (3, 0, 0, 0), (2, 101, 0, 0)], [], [], [], [(0, (3, 0))], [(0, 3)], []), [(4, 0)], 65, 4863)
noncomputable def zl_A12 : zk_An := (12, ([(0, 0, 0, 0), (1, 0, 0, 0), (2, 0, (-1), (-1)), (3, 0, 0, 0), (2, 101, 0, 0), (3, 0, 0, 0)], [], [], [(5, 12, [(0, 0), (0, 0), (2, 0), (2, 0), (2, 0), (2, 0), (2, 0), (2, 0), (0, 0), (2, 0), (2, 0), (0, 0), (2, 0), (0, 0), (0, 0), (0, 0), (0, 0), (1, 0), (0, 0), (0, 0), (0, 0), (0, 0), (2, 0), (0, 0), (2, 0), (2, 0), (0, 0), (2, 0), (2, 0), (0, 0), (0, 0), (2, 0), (2, 0), (2, 0), (0, 0), (2, 0), (2, 0), (2, 0), (0, 0), (1, 0), (1, 0), (2, 0), (2, 0), (2, 0), (2, 0), (2, 0), (2, 0), (0, 0), (2, 0), (0, 0), (2, 0), (2, 0), (2, 0), (0, 0), (2, 0), (2, 0), (2, 0), (0, 0), (0, 0), (0, 0), (0, 0), (1, 0), (2, 0), (0, 0)])], [(0, (3, 0)), (1, (4, 0))], [(0, 3), (1, 4)], []), [(5, 0), (5, 0)], 66, 4927, (0, []))
noncomputable def zl_O15 : zk_O := (15, ([(0, 0, 0, 0), (1, 0, 0, 0), (2, 0, (-1), (-1)), (3, 0, 0, 0), (2, 101, 0, 0), (2, 102, 0, 0)], [], [], [], [(0, (3, 0)), (1, (4, 0))], [(0, 3), (1, 4)], []), [(5, 0)], 100, 26066)
noncomputable def zl_A : zk_An := (18, ([(0, 0, 0, 0), (1, 0, 0, 0), (2, 0, (-1), (-1)), (3, 0, 0, 0), (2, 101, 0, 0), (2, 102, 0, 0)], [], [], [], [(0, (3, 0)), (1, (4, 0)), (2, (5, 0)), (3, (0, 0))], [(0, 3), (1, 4), (2, 5)], []), [], 100, 26066, (0, []))
theorem zl_g1 : zk_go (zh_Es zl_E [(3, 0, 0, 0)] []) zl_CL [zl_A4] none 40 0 zl_k0 [] 0 0 = true := by decide +kernel
theorem zl_g2 : zk_go (zh_Es zl_E [(3, 0, 0, 0), (2, 101, 0, 0)] []) zl_CL [zl_A12] none 40 7 (zl_O7.2.1.1, zl_O7.2.1.2.1, zl_O7.2.1.2.2.1, zl_O7.2.1.2.2.2.1, zl_O7.2.1.2.2.2.2.1, [(0, 3), (1, 4)], []) [(4, 0)] 65 4863 = true := by decide +kernel
theorem zl_g3 : zk_go (zh_Es zl_E [(3, 0, 0, 0), (2, 101, 0, 0), (2, 102, 0, 0)] []) zl_CL [zl_A] none 40 15 (zl_O15.2.1.1, zl_O15.2.1.2.1, zl_O15.2.1.2.2.1, zl_O15.2.1.2.2.2.1, zl_O15.2.1.2.2.2.2.1, [(0, 3), (1, 4), (2, 5)], []) [(5, 0)] 100 26066 = true := by decide +kernel
theorem zl_o4 : zk_s7 zl_E.1 zl_E.2.2.1 [zK_3015] [0] zl_E.2.2.2.2.2.1 [] (zk_Kr (zk_ev zl_E)) 0 (.invokespecial 9) 3 4 (zl_A4.2.1.1, zl_A4.2.1.2.1, zl_A4.2.1.2.2.1, zl_A4.2.1.2.2.2.1, zl_A4.2.1.2.2.2.2.1, [(0, 3)], []) [(4, 0), (4, 0)] 1 20 = some [zl_O7] := zh_oe (by decide +kernel)
theorem zl_o12 : zk_s7 zl_E.1 zl_E.2.2.1 [zK_3100] [181] zl_E.2.2.2.2.2.1 [] (zk_Kr (zk_ev zl_E)) 0 (.invokespecial 12) 3 12 (zl_A12.2.1.1, zl_A12.2.1.2.1, zl_A12.2.1.2.2.1, zl_A12.2.1.2.2.2.1, zl_A12.2.1.2.2.2.2.1, [(0, 3), (1, 4)], []) [(5, 0), (5, 0)] 66 4927 = some [zl_O15] := zh_oe (by decide +kernel)
/-- nothing was written: what was there is the same -/
theorem zl_ef0 {ps : List Int} {P0 : Nat → Option Nat} {G0 F : Nat → va_E} (h : zk_ef [] ps P0 G0 F) : ∀ a t k, P0 a = some t → zp_n F a k = zp_n G0 a k := fun a t k ha => zp_ef_fr h a t k ha (fun ⟨q, q1, _⟩ => absurd q1 List.not_mem_nil)
/-- the texts' types -/
noncomputable def zl_P (ad : Nat → Nat) (a : Nat) : Option Nat := ((List.range 10).find? (fun i => ad i == a)).map (fun i => 200 + i)
theorem zl_P1 {ad : Nat → Nat} {a t : Nat} (h : zl_P ad a = some t) : 200 ≤ t ∧ t < 210 ∧ a = ad (t - 200) := by
  unfold zl_P at h
  cases hf : (List.range 10).find? (fun i => ad i == a) with
  | none => rw [hf] at h; cases h
  | some i =>
    rw [hf] at h
    have h : some (200 + i) = some t := h
    obtain rfl := Option.some.inj h
    have h1 := List.find?_some hf
    have h2 := List.mem_range.mp (List.mem_of_find?_eq_some hf)
    have h1 : ad i = a := by simpa using h1
    exact ⟨by omega, by omega, by rw [Nat.add_sub_cancel_left, h1]⟩
theorem zl_P2 {ad : Nat → Nat} (hinj : ∀ i j, i < 10 → j < 10 → ad i = ad j → i = j) {t a : Nat} (h : 200 ≤ t ∧ t < 210 ∧ a = ad (t - 200)) : zl_P ad a = some t := by
  obtain ⟨h0, h1, rfl⟩ := h
  unfold zl_P
  cases hf : (List.range 10).find? (fun i => ad i == ad (t - 200)) with
  | none =>
    have := List.find?_eq_none.mp hf (t - 200) (List.mem_range.mpr (by omega))
    simp at this
  | some i =>
    have h2 := List.find?_some hf
    have h3 := List.mem_range.mp (List.mem_of_find?_eq_some hf)
    have h2 : ad i = ad (t - 200) := by simpa using h2
    have := hinj i (t - 200) h3 (by omega) h2
    show some (200 + i) = some t
    congr 1
    omega
theorem zl_relb : zk_rel.all (fun r => decide (r.1 < 200)) = true := by decide +kernel
theorem zl_wt {s : State} {D : va_G} {ad : Nat → Nat} (had : ∀ i, i < 10 → ad i < s.heap.size) {F : Nat → va_E} : zk_wt (zl_w s D ad) s (zl_P ad) F s.heap := by
  intro a t hp
  obtain ⟨h0, h1, h2⟩ := zl_P1 hp
  unfold zk_wt1
  rw [show (zl_w s D ad).1[t]? = none from List.getElem?_eq_none (by have : zt_types.length ≤ 200 := by decide +kernel
                                                                     show zt_types.length ≤ t
                                                                     omega)]
  refine ⟨by show a < s.heap.size; rw [h2]; exact had _ (by omega), ⟨h0, h1, h2⟩, List.all_eq_true.mpr (fun r hr => ?_)⟩
  have := of_decide_eq_true (List.all_eq_true.mp zl_relb r hr)
  rw [bne_iff_ne]
  omega
section ZL8F
variable {p : Program} {l : Launch} {e : Env} {s : State} {m : MethodId} {below : List Frame} {meth : Method} {c : Code} {w : zk_W} {b L : Nat} {xs : Nat → Int32}
theorem zl_len6 (hL : L ≤ 3072) : (Int32.ofNat L - 6 : Int32).toInt = (L : Int) - 6 := by
  rw [show (Int32.ofNat L : Int32) = Int32.ofInt (L : Int) from rfl, show (6 : Int32) = Int32.ofInt 6 from rfl, ← Int32.ofInt_sub]
  exact zk_i32 ⟨by omega, by omega⟩
theorem zl_loop (hC : zl_C p s m #[Value.ref b] c w b L xs) (hr : meth.sig.returnType = ret) (hlocks : meth.locks = false) {xa ma : Nat} : ∀ (n j : Nat) (P : Nat → Option Nat) (F : Nat → va_E) (H : Heap) (locs : List Loc) (ls : Array Slot), 513 - j < n → 6 * j ≤ 3072 → zl_I w s P F H locs → P xa = some 12 → P ma = some 13 → zl_R xa ma P (zp_n F) → lv_has ls 4 [(0, .ref b), (1, .ref xa), (2, .ref ma), (3, .int (nI (6 * j)))] → W p l e room_1 s m #[Value.ref b] below meth c H locs (100 + 16 * j) (26066 + 940 * j) (lw_Z below #[Value.ref b] s) (F0 m 18 ls []) := by
  intro n
  induction n with
  | zero => intro j P F H locs ls h; exact absurd h (Nat.not_lt_zero _)
  | succ n ih =>
    intro j P F H locs ls hn h6 hI h12 h13 hR hl
    have hx := hC.1
    have hb := hC.2.1
    have hbs := hC.2.2.2.2.2.1
    have hX := hC.2.2.2.2.2.2.2.2.2.1
    have hbl := hC.2.2.2.2.2.2.2.2.2.2.1
    have hL : L ≤ 3072 := hC.2.2.2.2.2.2.2.2.2.2.2
    have tj : (nI (6 * j)).toInt = ((6 * j : Nat) : Int) := nI_toInt (by omega)
    refine lv_iload_n (pc := 18) (k := 3) (i := 3) hx hb (zd_law0 (18, .iload_n 3, 1, 0, []) (List.mem_of_getElem? (i := 10) rfl)) rfl (lv_at hl 3 rfl) ?_
    refine lv_aload_n (pc := 19) (k := 0) (i := 0) hx hb (zd_law0 (19, .aload_n 0, 1, 0, []) (List.mem_of_getElem? (i := 11) rfl)) rfl (lv_at hl 0 rfl) ?_
    refine va_slen (pc := 20) (A := fun q => w.2.2.2.1 ≤ q) hx hb hX hbl (by rw [hbs]; exact Nat.not_le.mpr hbl) hI.2.1 (zd_law0 (20, .arraylength, 1, 0, []) (List.mem_of_getElem? (i := 12) rfl)) ?_
    refine lv_bipush (pc := 21) (n := 6) (v := 6) hx hb (zd_law0 (21, .bipush 6, 2, 0, []) (List.mem_of_getElem? (i := 13) rfl)) (by decide) ?_
    refine lv_isub (pc := 23) hx hb (zd_law0 (23, .isub, 1, 0, []) (List.mem_of_getElem? (i := 14) rfl)) ?_
    refine lv_icmp_gt (pc := 24) (tgt := 1378) hx hb (zd_law0 (24, .if_icmp .gt 1354, 3, 0, []) (List.mem_of_getElem? (i := 15) rfl)) (by decide) (fun _ => ?_) (fun hc => ?_)
    · refine lv_iconst (pc := 1378) (n := 1) (v := 1) hx hb (zd_law23 (1378, .iconst 1, 1, 0, []) (List.mem_of_getElem? (i := 8) rfl)) (by decide) ?_
      refine va_forget (fun q hq => by have := hI.2.1.2.2 q hq; rw [hbs] at this; exact this) ?_
      refine W.widen (k := 600000) (n := 7302250) (by omega) (by omega) ?_
      exact lw_ret hx hb hr hlocks (zd_law23 (1379, .ireturn, 1, 0, []) (List.mem_of_getElem? (i := 9) rfl))
    · have hj : 6 * j + 5 < L := by
        rw [Int32.lt_iff_toInt_lt, tj, zl_len6 hL] at hc
        omega
      have next : ∀ (P' : Nat → Option Nat) (F' : Nat → va_E) (H' : Heap) (locs' : List Loc), zl_I w s P' F' H' locs' → P' xa = some 12 → P' ma = some 13 → zl_R xa ma P' (zp_n F') → W p l e room_1 s m #[Value.ref b] below meth c H' locs' (100 + 16 * j + 16) (26066 + 940 * j + 940) (lw_Z below #[Value.ref b] s) (F0 m 1372 ls []) := by
        intro P' F' H' locs' hI' h12' h13' hR'
        refine lv_iinc (pc := 1372) (v := nI (6 * (j + 1))) (lv' := [(3, .int (nI (6 * (j + 1)))), (0, .ref b), (1, .ref xa), (2, .ref ma)]) hx hb (zd_law23 (1372, .iinc 3 6, 3, 0, []) (List.mem_of_getElem? (i := 6) rfl)) hl (k := 3) rfl (by rw [show Int32.ofInt 6 = nI 6 from rfl, nI_add]; rfl) (by decide) rfl (fun ls' hl' => ?_)
        refine lv_goto (pc := 1375) (tgt := 18) hx hb (zd_law23 (1375, .goto (-1357), 3, 0, []) (List.mem_of_getElem? (i := 7) rfl)) (by decide) ?_
        have := ih (j + 1) P' F' H' locs' ls' (by omega) (by omega) hI' h12' h13' hR' (lv_sub hl' [1, 2, 3, 0] rfl)
        rw [show 100 + 16 * (j + 1) = 100 + 16 * j + 16 by omega, show 26066 + 940 * (j + 1) = 26066 + 940 * j + 940 by omega] at this
        exact this
      refine lv_aload_n (pc := 27) (k := 0) (i := 0) hx hb (zd_law0 (27, .aload_n 0, 1, 0, []) (List.mem_of_getElem? (i := 16) rfl)) rfl (lv_at hl 0 rfl) ?_
      refine lv_iload_n (pc := 28) (k := 3) (i := 3) hx hb (zd_law0 (28, .iload_n 3, 1, 0, []) (List.mem_of_getElem? (i := 17) rfl)) rfl (lv_at hl 3 rfl) ?_
      refine zl_ld (pc := 29) (j := j) (k := 0) hC hI (by omega) (zd_law0 (29, .iaload, 1, 0, []) (List.mem_of_getElem? (i := 18) rfl)) ?_
      refine lv_bipush (pc := 30) (n := 63) (v := 63) hx hb (zd_law0 (30, .bipush 63, 2, 0, []) (List.mem_of_getElem? (i := 19) rfl)) (by decide) ?_
      refine lv_iand (pc := 32) hx hb (zd_law0 (32, .iand, 1, 0, []) (List.mem_of_getElem? (i := 20) rfl)) ?_
      have hf : 100 + 16 * j + 16 ≤ 600000 ∧ 26066 + 940 * j + 940 ≤ 7302250 := ⟨by omega, by omega⟩
      generalize (Int32.ofInt (zl_y xs j 0) &&& 63 : Int32) = v
      by_cases hv : v.toInt < 0 ∨ 41 < v.toInt
      · refine lv_tableOut (pc := 33) (tgt := 1372) hx hb (zd_law0 (33, .tableswitch 1339 0 41 #[183, 226, 259, 292, 325, 388, 421, 454, 517, 540, 553, 566, 579, 592, 605, 618, 641, 674, 697, 730, 743, 766, 779, 822, 865, 898, 921, 964, 997, 1020, 1053, 1096, 1109, 1122, 1145, 1178, 1201, 1234, 1257, 1280, 1303, 1326], 183, 0, []) (List.mem_of_getElem? (i := 21) rfl)) hv (by decide) ?_
        exact W.widen (Nat.le_add_right _ _) (Nat.le_add_right _ _) (next P F H locs hI h12 h13 hR)
      · have hv : v.toInt = 0 ∨ v.toInt = 1 ∨ v.toInt = 2 ∨ v.toInt = 3 ∨ v.toInt = 4 ∨ v.toInt = 5 ∨ v.toInt = 6 ∨ v.toInt = 7 ∨ v.toInt = 8 ∨ v.toInt = 9 ∨ v.toInt = 10 ∨ v.toInt = 11 ∨ v.toInt = 12 ∨ v.toInt = 13 ∨ v.toInt = 14 ∨ v.toInt = 15 ∨ v.toInt = 16 ∨ v.toInt = 17 ∨ v.toInt = 18 ∨ v.toInt = 19 ∨ v.toInt = 20 ∨ v.toInt = 21 ∨ v.toInt = 22 ∨ v.toInt = 23 ∨ v.toInt = 24 ∨ v.toInt = 25 ∨ v.toInt = 26 ∨ v.toInt = 27 ∨ v.toInt = 28 ∨ v.toInt = 29 ∨ v.toInt = 30 ∨ v.toInt = 31 ∨ v.toInt = 32 ∨ v.toInt = 33 ∨ v.toInt = 34 ∨ v.toInt = 35 ∨ v.toInt = 36 ∨ v.toInt = 37 ∨ v.toInt = 38 ∨ v.toInt = 39 ∨ v.toInt = 40 ∨ v.toInt = 41 := by omega
        rcases hv with hv | hv | hv | hv | hv | hv | hv | hv | hv | hv | hv | hv | hv | hv | hv | hv | hv | hv | hv | hv | hv | hv | hv | hv | hv | hv | hv | hv | hv | hv | hv | hv | hv | hv | hv | hv | hv | hv | hv | hv | hv | hv
        · exact lv_tableIn (pc := 33) (off := 183) (tgt := 216) hx hb (zd_law0 (33, .tableswitch 1339 0 41 #[183, 226, 259, 292, 325, 388, 421, 454, 517, 540, 553, 566, 579, 592, 605, 618, 641, 674, 697, 730, 743, 766, 779, 822, 865, 898, 921, 964, 997, 1020, 1053, 1096, 1109, 1122, 1145, 1178, 1201, 1234, 1257, 1280, 1303, 1326], 183, 0, []) (List.mem_of_getElem? (i := 21) rfl)) (by omega) (by omega) (by rw [hv]; rfl) (by decide) (zl_c0 hC hj hl hI h12 h13 hR hf next)
        · exact lv_tableIn (pc := 33) (off := 226) (tgt := 259) hx hb (zd_law0 (33, .tableswitch 1339 0 41 #[183, 226, 259, 292, 325, 388, 421, 454, 517, 540, 553, 566, 579, 592, 605, 618, 641, 674, 697, 730, 743, 766, 779, 822, 865, 898, 921, 964, 997, 1020, 1053, 1096, 1109, 1122, 1145, 1178, 1201, 1234, 1257, 1280, 1303, 1326], 183, 0, []) (List.mem_of_getElem? (i := 21) rfl)) (by omega) (by omega) (by rw [hv]; rfl) (by decide) (zl_c1 hC hj hl hI h12 h13 hR hf next)
        · exact lv_tableIn (pc := 33) (off := 259) (tgt := 292) hx hb (zd_law0 (33, .tableswitch 1339 0 41 #[183, 226, 259, 292, 325, 388, 421, 454, 517, 540, 553, 566, 579, 592, 605, 618, 641, 674, 697, 730, 743, 766, 779, 822, 865, 898, 921, 964, 997, 1020, 1053, 1096, 1109, 1122, 1145, 1178, 1201, 1234, 1257, 1280, 1303, 1326], 183, 0, []) (List.mem_of_getElem? (i := 21) rfl)) (by omega) (by omega) (by rw [hv]; rfl) (by decide) (zl_c2 hC hj hl hI h12 h13 hR hf next)
        · exact lv_tableIn (pc := 33) (off := 292) (tgt := 325) hx hb (zd_law0 (33, .tableswitch 1339 0 41 #[183, 226, 259, 292, 325, 388, 421, 454, 517, 540, 553, 566, 579, 592, 605, 618, 641, 674, 697, 730, 743, 766, 779, 822, 865, 898, 921, 964, 997, 1020, 1053, 1096, 1109, 1122, 1145, 1178, 1201, 1234, 1257, 1280, 1303, 1326], 183, 0, []) (List.mem_of_getElem? (i := 21) rfl)) (by omega) (by omega) (by rw [hv]; rfl) (by decide) (zl_c3 hC hj hl hI h12 h13 hR hf next)
        · exact lv_tableIn (pc := 33) (off := 325) (tgt := 358) hx hb (zd_law0 (33, .tableswitch 1339 0 41 #[183, 226, 259, 292, 325, 388, 421, 454, 517, 540, 553, 566, 579, 592, 605, 618, 641, 674, 697, 730, 743, 766, 779, 822, 865, 898, 921, 964, 997, 1020, 1053, 1096, 1109, 1122, 1145, 1178, 1201, 1234, 1257, 1280, 1303, 1326], 183, 0, []) (List.mem_of_getElem? (i := 21) rfl)) (by omega) (by omega) (by rw [hv]; rfl) (by decide) (zl_c4 hC hj hl hI h12 h13 hR hf next)
        · exact lv_tableIn (pc := 33) (off := 388) (tgt := 421) hx hb (zd_law0 (33, .tableswitch 1339 0 41 #[183, 226, 259, 292, 325, 388, 421, 454, 517, 540, 553, 566, 579, 592, 605, 618, 641, 674, 697, 730, 743, 766, 779, 822, 865, 898, 921, 964, 997, 1020, 1053, 1096, 1109, 1122, 1145, 1178, 1201, 1234, 1257, 1280, 1303, 1326], 183, 0, []) (List.mem_of_getElem? (i := 21) rfl)) (by omega) (by omega) (by rw [hv]; rfl) (by decide) (zl_c5 hC hj hl hI h12 h13 hR hf next)
        · exact lv_tableIn (pc := 33) (off := 421) (tgt := 454) hx hb (zd_law0 (33, .tableswitch 1339 0 41 #[183, 226, 259, 292, 325, 388, 421, 454, 517, 540, 553, 566, 579, 592, 605, 618, 641, 674, 697, 730, 743, 766, 779, 822, 865, 898, 921, 964, 997, 1020, 1053, 1096, 1109, 1122, 1145, 1178, 1201, 1234, 1257, 1280, 1303, 1326], 183, 0, []) (List.mem_of_getElem? (i := 21) rfl)) (by omega) (by omega) (by rw [hv]; rfl) (by decide) (zl_c6 hC hj hl hI h12 h13 hR hf next)
        · exact lv_tableIn (pc := 33) (off := 454) (tgt := 487) hx hb (zd_law0 (33, .tableswitch 1339 0 41 #[183, 226, 259, 292, 325, 388, 421, 454, 517, 540, 553, 566, 579, 592, 605, 618, 641, 674, 697, 730, 743, 766, 779, 822, 865, 898, 921, 964, 997, 1020, 1053, 1096, 1109, 1122, 1145, 1178, 1201, 1234, 1257, 1280, 1303, 1326], 183, 0, []) (List.mem_of_getElem? (i := 21) rfl)) (by omega) (by omega) (by rw [hv]; rfl) (by decide) (zl_c7 hC hj hl hI h12 h13 hR hf next)
        · exact lv_tableIn (pc := 33) (off := 517) (tgt := 550) hx hb (zd_law0 (33, .tableswitch 1339 0 41 #[183, 226, 259, 292, 325, 388, 421, 454, 517, 540, 553, 566, 579, 592, 605, 618, 641, 674, 697, 730, 743, 766, 779, 822, 865, 898, 921, 964, 997, 1020, 1053, 1096, 1109, 1122, 1145, 1178, 1201, 1234, 1257, 1280, 1303, 1326], 183, 0, []) (List.mem_of_getElem? (i := 21) rfl)) (by omega) (by omega) (by rw [hv]; rfl) (by decide) (zl_c8 hC hj hl hI h12 h13 hR hf next)
        · exact lv_tableIn (pc := 33) (off := 540) (tgt := 573) hx hb (zd_law0 (33, .tableswitch 1339 0 41 #[183, 226, 259, 292, 325, 388, 421, 454, 517, 540, 553, 566, 579, 592, 605, 618, 641, 674, 697, 730, 743, 766, 779, 822, 865, 898, 921, 964, 997, 1020, 1053, 1096, 1109, 1122, 1145, 1178, 1201, 1234, 1257, 1280, 1303, 1326], 183, 0, []) (List.mem_of_getElem? (i := 21) rfl)) (by omega) (by omega) (by rw [hv]; rfl) (by decide) (zl_c9 hC hj hl hI h12 h13 hR hf next)
        · exact lv_tableIn (pc := 33) (off := 553) (tgt := 586) hx hb (zd_law0 (33, .tableswitch 1339 0 41 #[183, 226, 259, 292, 325, 388, 421, 454, 517, 540, 553, 566, 579, 592, 605, 618, 641, 674, 697, 730, 743, 766, 779, 822, 865, 898, 921, 964, 997, 1020, 1053, 1096, 1109, 1122, 1145, 1178, 1201, 1234, 1257, 1280, 1303, 1326], 183, 0, []) (List.mem_of_getElem? (i := 21) rfl)) (by omega) (by omega) (by rw [hv]; rfl) (by decide) (zl_c10 hC hj hl hI h12 h13 hR hf next)
        · exact lv_tableIn (pc := 33) (off := 566) (tgt := 599) hx hb (zd_law0 (33, .tableswitch 1339 0 41 #[183, 226, 259, 292, 325, 388, 421, 454, 517, 540, 553, 566, 579, 592, 605, 618, 641, 674, 697, 730, 743, 766, 779, 822, 865, 898, 921, 964, 997, 1020, 1053, 1096, 1109, 1122, 1145, 1178, 1201, 1234, 1257, 1280, 1303, 1326], 183, 0, []) (List.mem_of_getElem? (i := 21) rfl)) (by omega) (by omega) (by rw [hv]; rfl) (by decide) (zl_c11 hC hj hl hI h12 h13 hR hf next)
        · exact lv_tableIn (pc := 33) (off := 579) (tgt := 612) hx hb (zd_law0 (33, .tableswitch 1339 0 41 #[183, 226, 259, 292, 325, 388, 421, 454, 517, 540, 553, 566, 579, 592, 605, 618, 641, 674, 697, 730, 743, 766, 779, 822, 865, 898, 921, 964, 997, 1020, 1053, 1096, 1109, 1122, 1145, 1178, 1201, 1234, 1257, 1280, 1303, 1326], 183, 0, []) (List.mem_of_getElem? (i := 21) rfl)) (by omega) (by omega) (by rw [hv]; rfl) (by decide) (zl_c12 hC hj hl hI h12 h13 hR hf next)
        · exact lv_tableIn (pc := 33) (off := 592) (tgt := 625) hx hb (zd_law0 (33, .tableswitch 1339 0 41 #[183, 226, 259, 292, 325, 388, 421, 454, 517, 540, 553, 566, 579, 592, 605, 618, 641, 674, 697, 730, 743, 766, 779, 822, 865, 898, 921, 964, 997, 1020, 1053, 1096, 1109, 1122, 1145, 1178, 1201, 1234, 1257, 1280, 1303, 1326], 183, 0, []) (List.mem_of_getElem? (i := 21) rfl)) (by omega) (by omega) (by rw [hv]; rfl) (by decide) (zl_c13 hC hj hl hI h12 h13 hR hf next)
        · exact lv_tableIn (pc := 33) (off := 605) (tgt := 638) hx hb (zd_law0 (33, .tableswitch 1339 0 41 #[183, 226, 259, 292, 325, 388, 421, 454, 517, 540, 553, 566, 579, 592, 605, 618, 641, 674, 697, 730, 743, 766, 779, 822, 865, 898, 921, 964, 997, 1020, 1053, 1096, 1109, 1122, 1145, 1178, 1201, 1234, 1257, 1280, 1303, 1326], 183, 0, []) (List.mem_of_getElem? (i := 21) rfl)) (by omega) (by omega) (by rw [hv]; rfl) (by decide) (zl_c14 hC hj hl hI h12 h13 hR hf next)
        · exact lv_tableIn (pc := 33) (off := 618) (tgt := 651) hx hb (zd_law0 (33, .tableswitch 1339 0 41 #[183, 226, 259, 292, 325, 388, 421, 454, 517, 540, 553, 566, 579, 592, 605, 618, 641, 674, 697, 730, 743, 766, 779, 822, 865, 898, 921, 964, 997, 1020, 1053, 1096, 1109, 1122, 1145, 1178, 1201, 1234, 1257, 1280, 1303, 1326], 183, 0, []) (List.mem_of_getElem? (i := 21) rfl)) (by omega) (by omega) (by rw [hv]; rfl) (by decide) (zl_c15 hC hj hl hI h12 h13 hR hf next)
        · exact lv_tableIn (pc := 33) (off := 641) (tgt := 674) hx hb (zd_law0 (33, .tableswitch 1339 0 41 #[183, 226, 259, 292, 325, 388, 421, 454, 517, 540, 553, 566, 579, 592, 605, 618, 641, 674, 697, 730, 743, 766, 779, 822, 865, 898, 921, 964, 997, 1020, 1053, 1096, 1109, 1122, 1145, 1178, 1201, 1234, 1257, 1280, 1303, 1326], 183, 0, []) (List.mem_of_getElem? (i := 21) rfl)) (by omega) (by omega) (by rw [hv]; rfl) (by decide) (zl_c16 hC hj hl hI h12 h13 hR hf next)
        · exact lv_tableIn (pc := 33) (off := 674) (tgt := 707) hx hb (zd_law0 (33, .tableswitch 1339 0 41 #[183, 226, 259, 292, 325, 388, 421, 454, 517, 540, 553, 566, 579, 592, 605, 618, 641, 674, 697, 730, 743, 766, 779, 822, 865, 898, 921, 964, 997, 1020, 1053, 1096, 1109, 1122, 1145, 1178, 1201, 1234, 1257, 1280, 1303, 1326], 183, 0, []) (List.mem_of_getElem? (i := 21) rfl)) (by omega) (by omega) (by rw [hv]; rfl) (by decide) (zl_c17 hC hj hl hI h12 h13 hR hf next)
        · exact lv_tableIn (pc := 33) (off := 697) (tgt := 730) hx hb (zd_law0 (33, .tableswitch 1339 0 41 #[183, 226, 259, 292, 325, 388, 421, 454, 517, 540, 553, 566, 579, 592, 605, 618, 641, 674, 697, 730, 743, 766, 779, 822, 865, 898, 921, 964, 997, 1020, 1053, 1096, 1109, 1122, 1145, 1178, 1201, 1234, 1257, 1280, 1303, 1326], 183, 0, []) (List.mem_of_getElem? (i := 21) rfl)) (by omega) (by omega) (by rw [hv]; rfl) (by decide) (zl_c18 hC hj hl hI h12 h13 hR hf next)
        · exact lv_tableIn (pc := 33) (off := 730) (tgt := 763) hx hb (zd_law0 (33, .tableswitch 1339 0 41 #[183, 226, 259, 292, 325, 388, 421, 454, 517, 540, 553, 566, 579, 592, 605, 618, 641, 674, 697, 730, 743, 766, 779, 822, 865, 898, 921, 964, 997, 1020, 1053, 1096, 1109, 1122, 1145, 1178, 1201, 1234, 1257, 1280, 1303, 1326], 183, 0, []) (List.mem_of_getElem? (i := 21) rfl)) (by omega) (by omega) (by rw [hv]; rfl) (by decide) (zl_c19 hC hj hl hI h12 h13 hR hf next)
        · exact lv_tableIn (pc := 33) (off := 743) (tgt := 776) hx hb (zd_law0 (33, .tableswitch 1339 0 41 #[183, 226, 259, 292, 325, 388, 421, 454, 517, 540, 553, 566, 579, 592, 605, 618, 641, 674, 697, 730, 743, 766, 779, 822, 865, 898, 921, 964, 997, 1020, 1053, 1096, 1109, 1122, 1145, 1178, 1201, 1234, 1257, 1280, 1303, 1326], 183, 0, []) (List.mem_of_getElem? (i := 21) rfl)) (by omega) (by omega) (by rw [hv]; rfl) (by decide) (zl_c20 hC hj hl hI h12 h13 hR hf next)
        · exact lv_tableIn (pc := 33) (off := 766) (tgt := 799) hx hb (zd_law0 (33, .tableswitch 1339 0 41 #[183, 226, 259, 292, 325, 388, 421, 454, 517, 540, 553, 566, 579, 592, 605, 618, 641, 674, 697, 730, 743, 766, 779, 822, 865, 898, 921, 964, 997, 1020, 1053, 1096, 1109, 1122, 1145, 1178, 1201, 1234, 1257, 1280, 1303, 1326], 183, 0, []) (List.mem_of_getElem? (i := 21) rfl)) (by omega) (by omega) (by rw [hv]; rfl) (by decide) (zl_c21 hC hj hl hI h12 h13 hR hf next)
        · exact lv_tableIn (pc := 33) (off := 779) (tgt := 812) hx hb (zd_law0 (33, .tableswitch 1339 0 41 #[183, 226, 259, 292, 325, 388, 421, 454, 517, 540, 553, 566, 579, 592, 605, 618, 641, 674, 697, 730, 743, 766, 779, 822, 865, 898, 921, 964, 997, 1020, 1053, 1096, 1109, 1122, 1145, 1178, 1201, 1234, 1257, 1280, 1303, 1326], 183, 0, []) (List.mem_of_getElem? (i := 21) rfl)) (by omega) (by omega) (by rw [hv]; rfl) (by decide) (zl_c22 hC hj hl hI h12 h13 hR hf next)
        · exact lv_tableIn (pc := 33) (off := 822) (tgt := 855) hx hb (zd_law0 (33, .tableswitch 1339 0 41 #[183, 226, 259, 292, 325, 388, 421, 454, 517, 540, 553, 566, 579, 592, 605, 618, 641, 674, 697, 730, 743, 766, 779, 822, 865, 898, 921, 964, 997, 1020, 1053, 1096, 1109, 1122, 1145, 1178, 1201, 1234, 1257, 1280, 1303, 1326], 183, 0, []) (List.mem_of_getElem? (i := 21) rfl)) (by omega) (by omega) (by rw [hv]; rfl) (by decide) (zl_c23 hC hj hl hI h12 h13 hR hf next)
        · exact lv_tableIn (pc := 33) (off := 865) (tgt := 898) hx hb (zd_law0 (33, .tableswitch 1339 0 41 #[183, 226, 259, 292, 325, 388, 421, 454, 517, 540, 553, 566, 579, 592, 605, 618, 641, 674, 697, 730, 743, 766, 779, 822, 865, 898, 921, 964, 997, 1020, 1053, 1096, 1109, 1122, 1145, 1178, 1201, 1234, 1257, 1280, 1303, 1326], 183, 0, []) (List.mem_of_getElem? (i := 21) rfl)) (by omega) (by omega) (by rw [hv]; rfl) (by decide) (zl_c24 hC hj hl hI h12 h13 hR hf next)
        · exact lv_tableIn (pc := 33) (off := 898) (tgt := 931) hx hb (zd_law0 (33, .tableswitch 1339 0 41 #[183, 226, 259, 292, 325, 388, 421, 454, 517, 540, 553, 566, 579, 592, 605, 618, 641, 674, 697, 730, 743, 766, 779, 822, 865, 898, 921, 964, 997, 1020, 1053, 1096, 1109, 1122, 1145, 1178, 1201, 1234, 1257, 1280, 1303, 1326], 183, 0, []) (List.mem_of_getElem? (i := 21) rfl)) (by omega) (by omega) (by rw [hv]; rfl) (by decide) (zl_c25 hC hj hl hI h12 h13 hR hf next)
        · exact lv_tableIn (pc := 33) (off := 921) (tgt := 954) hx hb (zd_law0 (33, .tableswitch 1339 0 41 #[183, 226, 259, 292, 325, 388, 421, 454, 517, 540, 553, 566, 579, 592, 605, 618, 641, 674, 697, 730, 743, 766, 779, 822, 865, 898, 921, 964, 997, 1020, 1053, 1096, 1109, 1122, 1145, 1178, 1201, 1234, 1257, 1280, 1303, 1326], 183, 0, []) (List.mem_of_getElem? (i := 21) rfl)) (by omega) (by omega) (by rw [hv]; rfl) (by decide) (zl_c26 hC hj hl hI h12 h13 hR hf next)
        · exact lv_tableIn (pc := 33) (off := 964) (tgt := 997) hx hb (zd_law0 (33, .tableswitch 1339 0 41 #[183, 226, 259, 292, 325, 388, 421, 454, 517, 540, 553, 566, 579, 592, 605, 618, 641, 674, 697, 730, 743, 766, 779, 822, 865, 898, 921, 964, 997, 1020, 1053, 1096, 1109, 1122, 1145, 1178, 1201, 1234, 1257, 1280, 1303, 1326], 183, 0, []) (List.mem_of_getElem? (i := 21) rfl)) (by omega) (by omega) (by rw [hv]; rfl) (by decide) (zl_c27 hC hj hl hI h12 h13 hR hf next)
        · exact lv_tableIn (pc := 33) (off := 997) (tgt := 1030) hx hb (zd_law0 (33, .tableswitch 1339 0 41 #[183, 226, 259, 292, 325, 388, 421, 454, 517, 540, 553, 566, 579, 592, 605, 618, 641, 674, 697, 730, 743, 766, 779, 822, 865, 898, 921, 964, 997, 1020, 1053, 1096, 1109, 1122, 1145, 1178, 1201, 1234, 1257, 1280, 1303, 1326], 183, 0, []) (List.mem_of_getElem? (i := 21) rfl)) (by omega) (by omega) (by rw [hv]; rfl) (by decide) (zl_c28 hC hj hl hI h12 h13 hR hf next)
        · exact lv_tableIn (pc := 33) (off := 1020) (tgt := 1053) hx hb (zd_law0 (33, .tableswitch 1339 0 41 #[183, 226, 259, 292, 325, 388, 421, 454, 517, 540, 553, 566, 579, 592, 605, 618, 641, 674, 697, 730, 743, 766, 779, 822, 865, 898, 921, 964, 997, 1020, 1053, 1096, 1109, 1122, 1145, 1178, 1201, 1234, 1257, 1280, 1303, 1326], 183, 0, []) (List.mem_of_getElem? (i := 21) rfl)) (by omega) (by omega) (by rw [hv]; rfl) (by decide) (zl_c29 hC hj hl hI h12 h13 hR hf next)
        · exact lv_tableIn (pc := 33) (off := 1053) (tgt := 1086) hx hb (zd_law0 (33, .tableswitch 1339 0 41 #[183, 226, 259, 292, 325, 388, 421, 454, 517, 540, 553, 566, 579, 592, 605, 618, 641, 674, 697, 730, 743, 766, 779, 822, 865, 898, 921, 964, 997, 1020, 1053, 1096, 1109, 1122, 1145, 1178, 1201, 1234, 1257, 1280, 1303, 1326], 183, 0, []) (List.mem_of_getElem? (i := 21) rfl)) (by omega) (by omega) (by rw [hv]; rfl) (by decide) (zl_c30 hC hj hl hI h12 h13 hR hf next)
        · exact lv_tableIn (pc := 33) (off := 1096) (tgt := 1129) hx hb (zd_law0 (33, .tableswitch 1339 0 41 #[183, 226, 259, 292, 325, 388, 421, 454, 517, 540, 553, 566, 579, 592, 605, 618, 641, 674, 697, 730, 743, 766, 779, 822, 865, 898, 921, 964, 997, 1020, 1053, 1096, 1109, 1122, 1145, 1178, 1201, 1234, 1257, 1280, 1303, 1326], 183, 0, []) (List.mem_of_getElem? (i := 21) rfl)) (by omega) (by omega) (by rw [hv]; rfl) (by decide) (zl_c31 hC hj hl hI h12 h13 hR hf next)
        · exact lv_tableIn (pc := 33) (off := 1109) (tgt := 1142) hx hb (zd_law0 (33, .tableswitch 1339 0 41 #[183, 226, 259, 292, 325, 388, 421, 454, 517, 540, 553, 566, 579, 592, 605, 618, 641, 674, 697, 730, 743, 766, 779, 822, 865, 898, 921, 964, 997, 1020, 1053, 1096, 1109, 1122, 1145, 1178, 1201, 1234, 1257, 1280, 1303, 1326], 183, 0, []) (List.mem_of_getElem? (i := 21) rfl)) (by omega) (by omega) (by rw [hv]; rfl) (by decide) (zl_c32 hC hj hl hI h12 h13 hR hf next)
        · exact lv_tableIn (pc := 33) (off := 1122) (tgt := 1155) hx hb (zd_law0 (33, .tableswitch 1339 0 41 #[183, 226, 259, 292, 325, 388, 421, 454, 517, 540, 553, 566, 579, 592, 605, 618, 641, 674, 697, 730, 743, 766, 779, 822, 865, 898, 921, 964, 997, 1020, 1053, 1096, 1109, 1122, 1145, 1178, 1201, 1234, 1257, 1280, 1303, 1326], 183, 0, []) (List.mem_of_getElem? (i := 21) rfl)) (by omega) (by omega) (by rw [hv]; rfl) (by decide) (zl_c33 hC hj hl hI h12 h13 hR hf next)
        · exact lv_tableIn (pc := 33) (off := 1145) (tgt := 1178) hx hb (zd_law0 (33, .tableswitch 1339 0 41 #[183, 226, 259, 292, 325, 388, 421, 454, 517, 540, 553, 566, 579, 592, 605, 618, 641, 674, 697, 730, 743, 766, 779, 822, 865, 898, 921, 964, 997, 1020, 1053, 1096, 1109, 1122, 1145, 1178, 1201, 1234, 1257, 1280, 1303, 1326], 183, 0, []) (List.mem_of_getElem? (i := 21) rfl)) (by omega) (by omega) (by rw [hv]; rfl) (by decide) (zl_c34 hC hj hl hI h12 h13 hR hf next)
        · exact lv_tableIn (pc := 33) (off := 1178) (tgt := 1211) hx hb (zd_law0 (33, .tableswitch 1339 0 41 #[183, 226, 259, 292, 325, 388, 421, 454, 517, 540, 553, 566, 579, 592, 605, 618, 641, 674, 697, 730, 743, 766, 779, 822, 865, 898, 921, 964, 997, 1020, 1053, 1096, 1109, 1122, 1145, 1178, 1201, 1234, 1257, 1280, 1303, 1326], 183, 0, []) (List.mem_of_getElem? (i := 21) rfl)) (by omega) (by omega) (by rw [hv]; rfl) (by decide) (zl_c35 hC hj hl hI h12 h13 hR hf next)
        · exact lv_tableIn (pc := 33) (off := 1201) (tgt := 1234) hx hb (zd_law0 (33, .tableswitch 1339 0 41 #[183, 226, 259, 292, 325, 388, 421, 454, 517, 540, 553, 566, 579, 592, 605, 618, 641, 674, 697, 730, 743, 766, 779, 822, 865, 898, 921, 964, 997, 1020, 1053, 1096, 1109, 1122, 1145, 1178, 1201, 1234, 1257, 1280, 1303, 1326], 183, 0, []) (List.mem_of_getElem? (i := 21) rfl)) (by omega) (by omega) (by rw [hv]; rfl) (by decide) (zl_c36 hC hj hl hI h12 h13 hR hf next)
        · exact lv_tableIn (pc := 33) (off := 1234) (tgt := 1267) hx hb (zd_law0 (33, .tableswitch 1339 0 41 #[183, 226, 259, 292, 325, 388, 421, 454, 517, 540, 553, 566, 579, 592, 605, 618, 641, 674, 697, 730, 743, 766, 779, 822, 865, 898, 921, 964, 997, 1020, 1053, 1096, 1109, 1122, 1145, 1178, 1201, 1234, 1257, 1280, 1303, 1326], 183, 0, []) (List.mem_of_getElem? (i := 21) rfl)) (by omega) (by omega) (by rw [hv]; rfl) (by decide) (zl_c37 hC hj hl hI h12 h13 hR hf next)
        · exact lv_tableIn (pc := 33) (off := 1257) (tgt := 1290) hx hb (zd_law0 (33, .tableswitch 1339 0 41 #[183, 226, 259, 292, 325, 388, 421, 454, 517, 540, 553, 566, 579, 592, 605, 618, 641, 674, 697, 730, 743, 766, 779, 822, 865, 898, 921, 964, 997, 1020, 1053, 1096, 1109, 1122, 1145, 1178, 1201, 1234, 1257, 1280, 1303, 1326], 183, 0, []) (List.mem_of_getElem? (i := 21) rfl)) (by omega) (by omega) (by rw [hv]; rfl) (by decide) (zl_c38 hC hj hl hI h12 h13 hR hf next)
        · exact lv_tableIn (pc := 33) (off := 1280) (tgt := 1313) hx hb (zd_law0 (33, .tableswitch 1339 0 41 #[183, 226, 259, 292, 325, 388, 421, 454, 517, 540, 553, 566, 579, 592, 605, 618, 641, 674, 697, 730, 743, 766, 779, 822, 865, 898, 921, 964, 997, 1020, 1053, 1096, 1109, 1122, 1145, 1178, 1201, 1234, 1257, 1280, 1303, 1326], 183, 0, []) (List.mem_of_getElem? (i := 21) rfl)) (by omega) (by omega) (by rw [hv]; rfl) (by decide) (zl_c39 hC hj hl hI h12 h13 hR hf next)
        · exact lv_tableIn (pc := 33) (off := 1303) (tgt := 1336) hx hb (zd_law0 (33, .tableswitch 1339 0 41 #[183, 226, 259, 292, 325, 388, 421, 454, 517, 540, 553, 566, 579, 592, 605, 618, 641, 674, 697, 730, 743, 766, 779, 822, 865, 898, 921, 964, 997, 1020, 1053, 1096, 1109, 1122, 1145, 1178, 1201, 1234, 1257, 1280, 1303, 1326], 183, 0, []) (List.mem_of_getElem? (i := 21) rfl)) (by omega) (by omega) (by rw [hv]; rfl) (by decide) (zl_c40 hC hj hl hI h12 h13 hR hf next)
        · exact lv_tableIn (pc := 33) (off := 1326) (tgt := 1359) hx hb (zd_law0 (33, .tableswitch 1339 0 41 #[183, 226, 259, 292, 325, 388, 421, 454, 517, 540, 553, 566, 579, 592, 605, 618, 641, 674, 697, 730, 743, 766, 779, 822, 865, 898, 921, 964, 997, 1020, 1053, 1096, 1109, 1122, 1145, 1178, 1201, 1234, 1257, 1280, 1303, 1326], 183, 0, []) (List.mem_of_getElem? (i := 21) rfl)) (by omega) (by omega) (by rw [hv]; rfl) (by decide) (zl_c41 hC hj hl hI h12 h13 hR hf next)
end ZL8F
theorem zl_ctx {p : Program} {l : Launch} {s : State} {m : MethodId} {meth : Method} {c : Code} {w : zk_W} {b L : Nat} {xs : Nat → Int32} (hC : zl_C p s m #[Value.ref b] c w b L xs) (hr : meth.sig.returnType = ret) (hlocks : meth.locks = false) {P0 : Nat → Option Nat} (htx : ∀ t a, w.2.2.2.2.1 t a → P0 a = some t) : zh_E l room_1 s m #[Value.ref b] meth c w zl_E P0 (fun q => P0 q = none) := by
  obtain ⟨hx, hb, hml, hown, hts, hbs, hK0, hZ, hW, hX, hbl, hL⟩ := hC
  intro N' P1 G1 eff ca ps' kp' hpl hext
  refine ⟨⟨hml, rfl, rfl⟩, hts, zt_clsok hW.2.1, hown, hK0, hW.1, by rw [hbs]; exact Nat.le_refl _, fun q hq => ?_, zt_dvok hW.2.1, fun h => absurd h (show ¬ (0 : Nat) = 2 by decide), ⟨Nat.le_refl _, Nat.le_refl _, Nat.le_refl _, Nat.le_refl _⟩, zt_good, fun i K hi => ?_, fun i K k hi hk => ?_, fun q hq => ?_, ⟨hlocks, hr, hpl.symm⟩, fun q h1 _ => ?_, hW.2.2.1, hZ, fun t a h => hext a t (htx t a h)⟩
  · obtain ⟨r, h1, rfl⟩ := List.mem_map.mp hq
    exact zt_lkb_ok hW.2.1 (List.all_eq_true.mp zl_lks r h1) hts
  · match i, hi with
    | 0, hi => cases hi; exact zq_3015 hW
    | 1, hi => cases hi; exact zq_3100 hW
    | i + 2, hi => simp [zl_E] at hi
  · match i, hi, hk with
    | 0, hi, hk => cases hi; cases hk; rfl
    | 1, hi, hk => cases hi; cases hk; rfl
    | i + 2, hi, hk => simp [zl_E] at hi
  · obtain ⟨r, h1, rfl⟩ := List.mem_map.mp hq
    exact zt_lcb_ok (List.all_eq_true.mp zl_lcs r h1) hts
  · show P0 q = none
    cases hq : P0 q with
    | none => rfl
    | some t =>
      have h1 : P1 q = none := h1
      rw [hext q t hq] at h1
      cases h1
theorem zl_mtt {t : Nat} (h : 140 ≤ t) : zl_mt t = t := by
  unfold zl_mt
  rw [if_neg (by omega), if_neg (by omega), if_neg (by omega), if_neg (by omega), if_neg (by omega), if_neg (by omega), if_neg (by omega), if_neg (by omega), if_neg (by omega), if_neg (by omega), if_neg (by omega), if_neg (by omega), if_neg (by omega), if_neg (by omega), if_neg (by omega), if_neg (by omega), if_neg (by omega), if_neg (by omega), if_neg (by omega), if_neg (by omega), if_neg (by omega), if_neg (by omega), if_neg (by omega), if_neg (by omega), if_neg (by omega), if_neg (by omega), if_neg (by omega), if_neg (by omega), if_neg (by omega), if_neg (by omega), if_neg (by omega), if_neg (by omega), if_neg (by omega), if_neg (by omega), if_neg (by omega), if_neg (by omega), if_neg (by omega), if_neg (by omega), if_neg (by omega), if_neg (by omega), if_neg (by omega), if_neg (by omega), if_neg (by omega), if_neg (by omega), if_neg (by omega), if_neg (by omega)]
theorem zl_mk3 (b : Nat) : zk_mk 3 ((b : Int) + 0) = Value.ref b := by
  show (if (b : Int) + 0 < 0 then Value.null else Value.ref ((b : Int) + 0).toNat) = _
  rw [if_neg (by omega), Int.add_zero, Int.toNat_natCast]
/-- an array or an object of no kind, for cells that aren't looked at -/
noncomputable def zl_F : Nat → va_E := fun _ => .inr (0, [])
set_option maxHeartbeats 4000000 in
theorem zl_start {p : Program} {l : Launch} {e : Env} {s : State} {m : MethodId} {below : List Frame} {meth : Method} {c : Code} {b L : Nat} {xs : Nat → Int32} {D : va_G} {ad : Nat → Nat} (hC : zl_C p s m #[Value.ref b] c (zl_w s D ad) b L xs) (hr : meth.sig.returnType = ret) (hlocks : meth.locks = false) (had : ∀ i, i < 10 → ad i < s.heap.size) (hinj : ∀ i j, i < 10 → j < 10 → ad i = ad j → i = j) {ls : Array Slot} (hl : lv_has ls 4 [(0, .ref b)]) : W p l e room_1 s m #[Value.ref b] below meth c s.heap [] 0 0 (lw_Z below #[Value.ref b] s) (F0 m 0 ls []) := by
  have htx : ∀ t a, (zl_w s D ad).2.2.2.2.1 t a → zl_P ad a = some t := fun t a h => zl_P2 hinj h
  have hE := zl_ctx (l := l) hC hr hlocks htx
  have hG : zk_G (zl_w s D ad) s (zl_P ad, zl_F, [(b : Int)], [], [], (zk_ev zl_E).2.2.1, fun q => zl_P ad q = none) zl_k0 [0, 0, -1, (b : Int)] (zl_P ad) zl_F s.heap [] ls := by
    refine ⟨⟨⟨by decide, by decide, by decide, by decide⟩, ⟨by decide, by decide, by decide, by decide⟩, ⟨by decide, by decide, fun _ => by decide, fun h => absurd h (by decide)⟩, (show (0 : Int) ≤ (b : Int) by omega), trivial⟩, fun q h => absurd h List.not_mem_nil, fun q h => absurd h List.not_mem_nil, trivial, zl_wt had, ⟨[(0, .ref b)], hl, ⟨rfl, ?_⟩, trivial⟩, fun _ _ h => h, fun _ _ _ => zk_same.rf, va_S.rf, fun q hq => ?_, fun q h => absurd h List.not_mem_nil, fun i n h => by simp at h, fun q _ h => ⟨h, rfl⟩⟩
    · refine ⟨(3, 0, 0, 0), (b : Int), rfl, rfl, trivial, ?_⟩
      exact (zl_mk3 b).symm
    · obtain rfl := List.mem_singleton.mp hq
      exact ⟨(b : Int), rfl, rfl⟩
  have hW := hC.2.2.2.2.2.2.2.2.1
  refine zh_seg (E := zl_E) (ps' := [(b : Int)]) (kp' := [(3, 0, 0, 0)]) (eff := []) (AL := []) (AN := [zl_A4]) (fuel := 40) hC.1 hC.2.1 hE rfl zl_dCL (by rw [Bool.and_eq_true]; exact ⟨zl_g1, rfl⟩) (fun _ _ h => h) hG (show zk_all2 (zk_sv zl_k0.1 [0, 0, -1, (b : Int)]) [] [] from trivial) (fun A hA => Or.inr (fun N1 P1 F1 H1 locs1 ls1 sv1 hG1 hS1 => ?_))
  obtain rfl := List.mem_singleton.mp hA
  have x1 : ∀ a t, zl_P ad a = some t → P1 a = some t := hG1.2.2.2.2.2.2.1
  have a1 : zk_pa N1 [(b : Int)] [(0, 3)] := hG1.2.2.2.2.2.2.2.2.2.1
  refine zh_call hC.1 hC.2.1 hE (ps' := [(b : Int)]) (kp' := [(3, 0, 0, 0)]) (eff := []) rfl (zX_i11 hW) (mi := 0) rfl (i := .invokespecial 9) (len := 3) (pc := 4) zl_o4 (zl_dCL (4, .invokespecial 9, 3, 0, []) (List.mem_of_getElem? (i := 2) rfl)) x1 (zh_reb (eff' := []) hG1 a1) hS1 (fun _ _ => trivial) (fun y hy N2 P2 F2 H2 locs2 ls2 sv2 ps2 rn2 hp2 hB2 hN2 hG2 hS2 => ?_)
  obtain rfl := List.mem_singleton.mp hy
  obtain ⟨xa, hxa, qxa⟩ := zh_r (i := 4) (t := 101) hG2.1 rfl
  have l1 : N1.length = 5 := (zk_all2_len hG1.1).symm
  have hgt2 : ∀ (j : Nat) (n : Int), j < 5 → N2[j]? = some n → N1[j]? = some n := fun j n hj h => by
    rcases hN2 with e | e
    · rw [e] at h
      exact h
    · rw [e, List.getElem?_append_left (by omega)] at h
      exact h
  have hps2 : ps2 = [(xa : Int)] := by
    have hp2 : zk_all2 (fun (q : zk_S) (n : Int) => ∃ k, N1[q.1]? = some k ∧ n = k + q.2) [((4, 0) : zk_S)] ps2 := hp2
    obtain ⟨y1, rfl, k1, g1, g2⟩ := zp_ps1 hp2
    have g5 := hgt2 4 _ (by decide) hxa
    cases g5.symm.trans g1
    rw [g2]
    simp
  subst hps2
  obtain ⟨tp0, rd0, dy0, ru0, t8, qtp0, t9, qrd0, t0, t4, qdy0, t3, qru0, t34⟩ := hB2
  have t8 : zp_n F2 xa 8 = (tp0 : Int) := t8
  have t9 : zp_n F2 xa 9 = (rd0 : Int) := t9
  have t4 : zp_n F2 xa 4 = (dy0 : Int) := t4
  have t3 : zp_n F2 xa 3 = (ru0 : Int) := t3
  have x2 : ∀ a t, zl_P ad a = some t → P2 a = some t := fun a t h => hG2.2.2.2.2.2.2.1 a t (x1 a t h)
  have b3 : N2[3]? = some (b : Int) := zh_pa (j := 0) (show zk_pa N2 [(b : Int)] [(0, 3)] from hG2.2.2.2.2.2.2.2.2.2.1) (List.mem_singleton.mpr rfl) rfl
  have a2 : zk_pa N2 [(b : Int), (xa : Int)] [(0, 3), (1, 4)] := List.forall_mem_cons.mpr ⟨⟨(b : Int), b3, rfl⟩, List.forall_mem_cons.mpr ⟨⟨(xa : Int), hxa, rfl⟩, fun q h => absurd h List.not_mem_nil⟩⟩
  refine zh_seg (E := zl_E) (ps' := [(b : Int), (xa : Int)]) (kp' := [(3, 0, 0, 0), (2, 101, 0, 0)]) (eff := []) (AL := []) (AN := [zl_A12]) (fuel := 40) hC.1 hC.2.1 hE rfl zl_dCL (by rw [Bool.and_eq_true]; exact ⟨zl_g2, rfl⟩) x2 (zh_reb (eff' := []) hG2 a2) hS2 (fun A hA => Or.inr (fun N3 P3 F3 H3 locs3 ls3 sv3 hG3 hS3 => ?_))
  obtain rfl := List.mem_singleton.mp hA
  have x23 : ∀ a t, P2 a = some t → P3 a = some t := hG3.2.2.2.2.2.2.1
  have f23 := zl_ef0 hG3.2.2.2.2.2.2.2.1
  have x3 : ∀ a t, zl_P ad a = some t → P3 a = some t := fun a t h => x23 a t (x2 a t h)
  have a3 : zk_pa N3 [(b : Int), (xa : Int)] [(0, 3), (1, 4)] := hG3.2.2.2.2.2.2.2.2.2.1
  refine zh_call hC.1 hC.2.1 hE (ps' := [(b : Int), (xa : Int)]) (kp' := [(3, 0, 0, 0), (2, 101, 0, 0)]) (eff := []) rfl (zX_i12 hW) (mi := 181) rfl (i := .invokespecial 12) (len := 3) (pc := 12) zl_o12 (zl_dCL (12, .invokespecial 12, 3, 1, []) (List.mem_of_getElem? (i := 6) rfl)) x3 (zh_reb (eff' := []) hG3 a3) hS3 (fun _ _ => trivial) (fun y hy N4 P4 F4 H4 locs4 ls4 sv4 ps4 rn4 hp4 hB4 hN4 hG4 hS4 => ?_)
  obtain rfl := List.mem_singleton.mp hy
  obtain ⟨ma, hma, qma⟩ := zh_r (i := 5) (t := 102) hG4.1 rfl
  have l3 : N3.length = 6 := (zk_all2_len hG3.1).symm
  have hgt4 : ∀ (j : Nat) (n : Int), j < 6 → N4[j]? = some n → N3[j]? = some n := fun j n hj h => by
    rcases hN4 with e | e
    · rw [e] at h
      exact h
    · rw [e, List.getElem?_append_left (by omega)] at h
      exact h
  have hps4 : ps4 = [(ma : Int)] := by
    have hp4 : zk_all2 (fun (q : zk_S) (n : Int) => ∃ k, N3[q.1]? = some k ∧ n = k + q.2) [((5, 0) : zk_S)] ps4 := hp4
    obtain ⟨y1, rfl, k1, g1, g2⟩ := zp_ps1 hp4
    have g5 := hgt4 5 _ (by decide) hma
    cases g5.symm.trans g1
    rw [g2]
    simp
  subst hps4
  obtain ⟨f34, ⟨b3_, e3_, q3_, v34, v36, v38, v310⟩, ⟨b31, e31, q31, v31⟩, ⟨b32, e32, q32, v32⟩, b33, e33, q33, v33⟩ := hB4
  have e3_ : zp_n F4 ma 3 = (b3_ : Int) := e3_
  have e31 : zp_n F4 ma 31 = (b31 : Int) := e31
  have e32 : zp_n F4 ma 32 = (b32 : Int) := e32
  have e33 : zp_n F4 ma 33 = (b33 : Int) := e33
  have x34 : ∀ a t, P3 a = some t → P4 a = some t := hG4.2.2.2.2.2.2.1
  have x4 : ∀ a t, zl_P ad a = some t → P4 a = some t := fun a t h => x34 a t (x3 a t h)
  have c34 : zk_pa N4 [(b : Int), (xa : Int)] [(0, 3), (1, 4)] := hG4.2.2.2.2.2.2.2.2.2.1
  have d3 : N4[3]? = some (b : Int) := zh_pa (j := 0) c34 List.mem_cons_self rfl
  have d4 : N4[4]? = some (xa : Int) := zh_pa (j := 1) c34 (List.mem_cons_of_mem _ List.mem_cons_self) rfl
  have a4 : zk_pa N4 [(b : Int), (xa : Int), (ma : Int)] [(0, 3), (1, 4), (2, 5)] := List.forall_mem_cons.mpr ⟨⟨(b : Int), d3, rfl⟩, List.forall_mem_cons.mpr ⟨⟨(xa : Int), d4, rfl⟩, List.forall_mem_cons.mpr ⟨⟨(ma : Int), hma, rfl⟩, fun q h => absurd h List.not_mem_nil⟩⟩⟩
  refine zh_seg (E := zl_E) (ps' := [(b : Int), (xa : Int), (ma : Int)]) (kp' := [(3, 0, 0, 0), (2, 101, 0, 0), (2, 102, 0, 0)]) (eff := []) (AL := []) (AN := [zl_A]) (fuel := 40) hC.1 hC.2.1 hE rfl zl_dCL (by rw [Bool.and_eq_true]; exact ⟨zl_g3, rfl⟩) x4 (zh_reb (eff' := []) hG4 a4) hS4 (fun A hA => Or.inr (fun N' P' F' H' locs' ls' sv' hG' hS' => ?_))
  obtain rfl := List.mem_singleton.mp hA
  have f45 : ∀ a t k, P4 a = some t → zp_n F' a k = zp_n F4 a k := zl_ef0 hG'.2.2.2.2.2.2.2.1
  have x45 : ∀ a t, P4 a = some t → P' a = some t := hG'.2.2.2.2.2.2.1
  obtain ⟨g1, g2, g3, g4, g5, ⟨lv, hlv, hlr⟩, g7, g8, g9, g10, g11, g12, g13⟩ := hG'
  match sv', hS' with
  | [], hS' =>
  have a5 : zk_pa N' [(b : Int), (xa : Int), (ma : Int)] [(0, 3), (1, 4), (2, 5)] := g10
  have h3 : N'[3]? = some (b : Int) := zh_pa (j := 0) a5 List.mem_cons_self rfl
  have hxa : N'[4]? = some (xa : Int) := zh_pa (j := 1) a5 (List.mem_cons_of_mem _ List.mem_cons_self) rfl
  have hma : N'[5]? = some (ma : Int) := zh_pa (j := 2) a5 (List.mem_cons_of_mem _ (List.mem_cons_of_mem _ List.mem_cons_self)) rfl
  have h95 : P' xa = some 101 := x45 _ _ (x34 _ _ (x23 _ _ qxa))
  have h96 : P' ma = some 102 := x45 _ _ qma
  have fz : ∀ a t k, P2 a = some t → zp_n F' a k = zp_n F2 a k := fun a t k h => (f45 a t k (x34 _ _ (x23 _ _ h))).trans ((f34 a t k (x23 _ _ h)).trans (f23 a t k h))
  obtain ⟨n0, hn0, hn1, hn2⟩ := zh_i (i := 0) (lo := 0) (hi := 0) g1 rfl
  obtain rfl : n0 = 0 := Int.le_antisymm hn2 hn1
  have hlr : zk_all2 (zk_lr zl_A.2.1.1 N') [(0, (3, 0)), (1, (4, 0)), (2, (5, 0)), (3, (0, 0))] lv := hlr
  obtain ⟨⟨i0, v0⟩, l0, j0, r0⟩ := zk_all2_get hlr (i := 0) rfl
  obtain ⟨⟨i1, v1⟩, l1, j1, r1⟩ := zk_all2_get hlr (i := 1) rfl
  obtain ⟨⟨i2, v2⟩, l2, j2, r2⟩ := zk_all2_get hlr (i := 2) rfl
  obtain ⟨⟨i3, v3⟩, l3, j3, r3⟩ := zk_all2_get hlr (i := 3) rfl
  have j0 : 0 = i0 := j0
  have j1 : 1 = i1 := j1
  have j2 : 2 = i2 := j2
  have j3 : 3 = i3 := j3
  subst j0
  subst j1
  subst j2
  subst j3
  have e1 : v1 = .ref xa := zh_vr (x := 4) (t := 101) r1 rfl hxa
  have e2 : v2 = .ref ma := zh_vr (x := 5) (t := 102) r2 rfl hma
  have e3 : v3 = .int (nI (6 * 0)) := (zh_vi (x := 0) (o := 0) (t := 0) (lo := 0) (hi := 0) r3 rfl hn0).1.trans rfl
  have e0 : v0 = .ref b := by
    obtain ⟨f, n, y1, y2, -, y4⟩ := r0
    have y1 : some ((3, 0, 0, 0) : zk_F) = some f := y1
    cases y1
    cases h3.symm.trans y2
    exact y4.trans (zl_mk3 b)
  subst e0
  subst e1
  subst e2
  subst e3
  have hlv : lv_has ls' 4 [(0, .ref b), (1, .ref xa), (2, .ref ma), (3, .int (nI (6 * 0)))] := ⟨hlv.1, hlv.2.1, List.forall_mem_cons.mpr ⟨hlv.2.2 _ (List.mem_of_getElem? l0), List.forall_mem_cons.mpr ⟨hlv.2.2 _ (List.mem_of_getElem? l1), List.forall_mem_cons.mpr ⟨hlv.2.2 _ (List.mem_of_getElem? l2), List.forall_mem_cons.mpr ⟨hlv.2.2 _ (List.mem_of_getElem? l3), fun q h => absurd h List.not_mem_nil⟩⟩⟩⟩⟩
  have hwW : (zl_w s D ad).1 = zt_types := rfl
  have h12 : zl_Pm P' xa = some 12 := zl_Pme h95
  have h13 : zl_Pm P' ma = some 13 := zl_Pme h96
  have hru : ∀ dy ru : Nat, zp_n F' xa 4 = (dy : Int) → zp_n F' xa 3 = (ru : Int) → zp_n F' dy 0 = (ru : Int) := fun dy ru h4 h3 => by
    rw [fz xa 101 4 qxa, t4] at h4
    rw [fz xa 101 3 qxa, t3] at h3
    obtain rfl : dy0 = dy := by omega
    obtain rfl : ru0 = ru := by omega
    exact (fz dy0 99 0 qdy0).trans t34
  have htp : ∀ rd tp : Nat, zp_n F' xa 9 = (rd : Int) → zp_n F' xa 8 = (tp : Int) → zp_n F' rd 0 = (tp : Int) := fun rd tp h9 h8 => by
    rw [fz xa 101 9 qxa, t9] at h9
    rw [fz xa 101 8 qxa, t8] at h8
    obtain rfl : rd0 = rd := by omega
    obtain rfl : tp0 = tp := by omega
    exact (fz rd0 95 0 qrd0).trans t0
  obtain ⟨A, hA0, hAt, hAf⟩ := zl_bc hwW g5 h95 hru htp
  obtain ⟨B, hB0, hBt, hBf⟩ := zl_br hwW g5 h96
  have m1 := zl_mc hAt hAf (by decide)
  have m4 := zl_mr hBt hBf (by decide)
  have p3 := hBf (0, 3, 3) (by decide)
  have p31 := hBf (0, 31, 31) (by decide)
  have p32 := hBf (0, 32, 32) (by decide)
  have p33 := hBf (0, 33, 33) (by decide)
  dsimp only at p3 p31 p32 p33
  rw [hB0] at p3 p31 p32 p33
  rw [f45 ma 102 3 qma, e3_] at p3
  have c3 : B 3 = b3_ := by omega
  rw [f45 ma 102 31 qma, e31] at p31
  have c31 : B 31 = b31 := by omega
  rw [f45 ma 102 32 qma, e32] at p32
  have c32 : B 32 = b32 := by omega
  rw [f45 ma 102 33 qma, e33] at p33
  have c33 : B 33 = b33 := by omega
  have r4 : zp_n F' (B 3) (2000 + 4) = (-1) := by rw [c3]; exact (f45 b3_ 100 (2000 + 4) q3_).trans v34
  have r6 : zp_n F' (B 3) (2000 + 6) = 7 := by rw [c3]; exact (f45 b3_ 100 (2000 + 6) q3_).trans v36
  have r8 : zp_n F' (B 3) (2000 + 8) = 1000 := by rw [c3]; exact (f45 b3_ 100 (2000 + 8) q3_).trans v38
  have r10 : zp_n F' (B 3) (2000 + 10) = (-1) := by rw [c3]; exact (f45 b3_ 100 (2000 + 10) q3_).trans v310
  have hV3 := zl_row1 hwW g5 (hBt (3, 100) (by decide)) r4 r6 r8 r10
  have w31 : ∀ k : Nat, k < 9 → zp_n F' (B 31) (2000 + k) = ywd.getD k 0 := fun k hk => by rw [c31]; exact (f45 b31 72 (2000 + k) q31).trans (v31 k hk)
  have w32 : ∀ k : Nat, k < 7 → zp_n F' (B 32) (2000 + k) = ywo.getD k 0 := fun k hk => by rw [c32]; exact (f45 b32 73 (2000 + k) q32).trans (v32 k hk)
  have w33 : ∀ k : Nat, k < 5 → zp_n F' (B 33) (2000 + k) = ywh.getD k 0 := fun k hk => by rw [c33]; exact (f45 b33 74 (2000 + k) q33).trans (v33 k hk)
  have v0_1 := zp_int (zp_rdf (xs := []) (zp_wt.of g5) hwW (hBt (0, 102) (by decide)) (show zp_fd 102 1 = some (12, 0, 0, 0, 0) from rfl) (show (0 : Nat) ≤ 2 by decide)).1
  have v0_1 : zp_n F' (B 0) 1 = 0 := Int.le_antisymm v0_1.2 v0_1.1
  have v0_8 := zp_int (zp_rdf (xs := []) (zp_wt.of g5) hwW (hBt (0, 102) (by decide)) (show zp_fd 102 8 = some (12, 0, 0, 0, 0) from rfl) (show (0 : Nat) ≤ 2 by decide)).1
  have v0_8 : zp_n F' (B 0) 8 = 0 := Int.le_antisymm v0_8.2 v0_8.1
  have v0_11 := zp_int (zp_rdf (xs := []) (zp_wt.of g5) hwW (hBt (0, 102) (by decide)) (show zp_fd 102 11 = some (12, 0, 0, 0, 0) from rfl) (show (0 : Nat) ≤ 2 by decide)).1
  have v0_11 : zp_n F' (B 0) 11 = 0 := Int.le_antisymm v0_11.2 v0_11.1
  have v0_13 := zp_int (zp_rdf (xs := []) (zp_wt.of g5) hwW (hBt (0, 102) (by decide)) (show zp_fd 102 13 = some (12, 0, 0, 0, 0) from rfl) (show (0 : Nat) ≤ 2 by decide)).1
  have v0_13 : zp_n F' (B 0) 13 = 0 := Int.le_antisymm v0_13.2 v0_13.1
  have v0_18 := zp_int (zp_rdf (xs := []) (zp_wt.of g5) hwW (hBt (0, 102) (by decide)) (show zp_fd 102 18 = some (12, 0, 0, (-1), (-1)) from rfl) (show (0 : Nat) ≤ 2 by decide)).1
  have v0_18 : zp_n F' (B 0) 18 = (-1) := Int.le_antisymm v0_18.2 v0_18.1
  have v0_20 := zp_int (zp_rdf (xs := []) (zp_wt.of g5) hwW (hBt (0, 102) (by decide)) (show zp_fd 102 20 = some (12, 0, 0, 0, 0) from rfl) (show (0 : Nat) ≤ 2 by decide)).1
  have v0_20 : zp_n F' (B 0) 20 = 0 := Int.le_antisymm v0_20.2 v0_20.1
  have v0_30 := zp_int (zp_rdf (xs := []) (zp_wt.of g5) hwW (hBt (0, 102) (by decide)) (show zp_fd 102 30 = some (12, 0, 0, 0, 0) from rfl) (show (0 : Nat) ≤ 2 by decide)).1
  have v0_30 : zp_n F' (B 0) 30 = 0 := Int.le_antisymm v0_30.2 v0_30.1
  have v0_47 := zp_int (zp_rdf (xs := []) (zp_wt.of g5) hwW (hBt (0, 102) (by decide)) (show zp_fd 102 47 = some (12, 0, 0, (-1), (-1)) from rfl) (show (0 : Nat) ≤ 2 by decide)).1
  have v0_47 : zp_n F' (B 0) 47 = (-1) := Int.le_antisymm v0_47.2 v0_47.1
  have v0_59 := zp_int (zp_rdf (xs := []) (zp_wt.of g5) hwW (hBt (0, 102) (by decide)) (show zp_fd 102 59 = some (12, 0, 0, (-1), (-1)) from rfl) (show (0 : Nat) ≤ 2 by decide)).1
  have v0_59 : zp_n F' (B 0) 59 = (-1) := Int.le_antisymm v0_59.2 v0_59.1
  have v0_63 := zp_int (zp_rdf (xs := []) (zp_wt.of g5) hwW (hBt (0, 102) (by decide)) (show zp_fd 102 63 = some (12, 0, 0, (-1), (-1)) from rfl) (show (0 : Nat) ≤ 2 by decide)).1
  have v0_63 : zp_n F' (B 0) 63 = (-1) := Int.le_antisymm v0_63.2 v0_63.1
  have w1_1 := zp_int (zp_rdf (xs := []) (zp_wt.of g5) hwW (hAt (1, 98) (by decide)) (show zp_fd 98 1 = some (9, 0, 0, 0, 0) from rfl) (show (0 : Nat) ≤ 2 by decide)).1
  have w1_1 : zp_n F' (A 1) 1 = 0 := Int.le_antisymm w1_1.2 w1_1.1
  have w1_3 := zp_int (zp_rdf (xs := []) (zp_wt.of g5) hwW (hAt (1, 98) (by decide)) (show zp_fd 98 3 = some (9, 0, 0, 0, 0) from rfl) (show (0 : Nat) ≤ 2 by decide)).1
  have w1_3 : zp_n F' (A 1) 3 = 0 := Int.le_antisymm w1_3.2 w1_3.1
  have w1_9 := zp_int (zp_rdf (xs := []) (zp_wt.of g5) hwW (hAt (1, 98) (by decide)) (show zp_fd 98 9 = some (9, 0, 0, 0, 0) from rfl) (show (0 : Nat) ≤ 2 by decide)).1
  have w1_9 : zp_n F' (A 1) 9 = 0 := Int.le_antisymm w1_9.2 w1_9.1
  have w1_14 := zp_int (zp_rdf (xs := []) (zp_wt.of g5) hwW (hAt (1, 98) (by decide)) (show zp_fd 98 14 = some (9, 0, 0, 0, 0) from rfl) (show (0 : Nat) ≤ 2 by decide)).1
  have w1_14 : zp_n F' (A 1) 14 = 0 := Int.le_antisymm w1_14.2 w1_14.1
  have w1_15 := zp_int (zp_rdf (xs := []) (zp_wt.of g5) hwW (hAt (1, 98) (by decide)) (show zp_fd 98 15 = some (9, 0, 0, (-1), (-1)) from rfl) (show (0 : Nat) ≤ 2 by decide)).1
  have w1_15 : zp_n F' (A 1) 15 = (-1) := Int.le_antisymm w1_15.2 w1_15.1
  have w1_16 := zp_int (zp_rdf (xs := []) (zp_wt.of g5) hwW (hAt (1, 98) (by decide)) (show zp_fd 98 16 = some (9, 0, 0, 7, 7) from rfl) (show (0 : Nat) ≤ 2 by decide)).1
  have w1_16 : zp_n F' (A 1) 16 = 7 := Int.le_antisymm w1_16.2 w1_16.1
  have w1_17 := zp_int (zp_rdf (xs := []) (zp_wt.of g5) hwW (hAt (1, 98) (by decide)) (show zp_fd 98 17 = some (9, 0, 0, 0, 0) from rfl) (show (0 : Nat) ≤ 2 by decide)).1
  have w1_17 : zp_n F' (A 1) 17 = 0 := Int.le_antisymm w1_17.2 w1_17.1
  have w2_3 := zp_int (zp_rdf (xs := []) (zp_wt.of g5) hwW (hAt (2, 117) (by decide)) (show zp_fd 117 3 = some (2, 0, 0, 1000, 1000) from rfl) (show (0 : Nat) ≤ 2 by decide)).1
  have w2_3 : zp_n F' (A 2) 3 = 1000 := Int.le_antisymm w2_3.2 w2_3.1
  have w2_4 := zp_int (zp_rdf (xs := []) (zp_wt.of g5) hwW (hAt (2, 117) (by decide)) (show zp_fd 117 4 = some (2, 0, 0, 0, 0) from rfl) (show (0 : Nat) ≤ 2 by decide)).1
  have w2_4 : zp_n F' (A 2) 4 = 0 := Int.le_antisymm w2_4.2 w2_4.1
  have w2_5 := zp_int (zp_rdf (xs := []) (zp_wt.of g5) hwW (hAt (2, 117) (by decide)) (show zp_fd 117 5 = some (2, 0, 0, (-1), (-1)) from rfl) (show (0 : Nat) ≤ 2 by decide)).1
  have w2_5 : zp_n F' (A 2) 5 = (-1) := Int.le_antisymm w2_5.2 w2_5.1
  have w2_6 := zp_int (zp_rdf (xs := []) (zp_wt.of g5) hwW (hAt (2, 117) (by decide)) (show zp_fd 117 6 = some (2, 0, 0, 0, 0) from rfl) (show (0 : Nat) ≤ 2 by decide)).1
  have w2_6 : zp_n F' (A 2) 6 = 0 := Int.le_antisymm w2_6.2 w2_6.1
  have w3_3 := zp_int (zp_rdf (xs := []) (zp_wt.of g5) hwW (hAt (3, 133) (by decide)) (show zp_fd 133 3 = some (10, 0, 0, 0, 0) from rfl) (show (0 : Nat) ≤ 2 by decide)).1
  have w3_3 : zp_n F' (A 3) 3 = 0 := Int.le_antisymm w3_3.2 w3_3.1
  have w3_2 := zp_int (zp_rdf (xs := []) (zp_wt.of g5) hwW (hAt (3, 133) (by decide)) (show zp_fd 133 2 = some (10, 0, 0, 0, 15) from rfl) (show (0 : Nat) ≤ 2 by decide)).1
  have w0_15 := zp_int (zp_rdf (xs := []) (zp_wt.of g5) hwW (hAt (0, 101) (by decide)) (show zp_fd 101 15 = some (11, 0, 0, (-1), (-1)) from rfl) (show (0 : Nat) ≤ 2 by decide)).1
  have w0_15 : zp_n F' (A 0) 15 = (-1) := Int.le_antisymm w0_15.2 w0_15.1
  have w0_17 := zp_int (zp_rdf (xs := []) (zp_wt.of g5) hwW (hAt (0, 101) (by decide)) (show zp_fd 101 17 = some (11, 0, 0, 0, 0) from rfl) (show (0 : Nat) ≤ 2 by decide)).1
  have w0_17 : zp_n F' (A 0) 17 = 0 := Int.le_antisymm w0_17.2 w0_17.1
  have w0_18 := zp_int (zp_rdf (xs := []) (zp_wt.of g5) hwW (hAt (0, 101) (by decide)) (show zp_fd 101 18 = some (11, 0, 0, 0, 0) from rfl) (show (0 : Nat) ≤ 2 by decide)).1
  have w0_18 : zp_n F' (A 0) 18 = 0 := Int.le_antisymm w0_18.2 w0_18.1
  have w12_2 := zp_int (zp_rdf (xs := []) (zp_wt.of g5) hwW (hAt (12, 95) (by decide)) (show zp_fd 95 2 = some (5, 0, 0, (-1), (-1)) from rfl) (show (0 : Nat) ≤ 2 by decide)).1
  have w12_2 : zp_n F' (A 12) 2 = (-1) := Int.le_antisymm w12_2.2 w12_2.1
  have w6_3 := zp_int (zp_rdf (xs := []) (zp_wt.of g5) hwW (hAt (6, 139) (by decide)) (show zp_fd 139 3 = some (1, 0, 0, (-1), (-1)) from rfl) (show (0 : Nat) ≤ 2 by decide)).1
  have w6_3 : zp_n F' (A 6) 3 = (-1) := Int.le_antisymm w6_3.2 w6_3.1
  have w11_1 := zp_int (zp_rdf (xs := []) (zp_wt.of g5) hwW (hAt (11, 94) (by decide)) (show zp_fd 94 1 = some (7, 0, 0, 0, 0) from rfl) (show (0 : Nat) ≤ 2 by decide)).1
  have w11_1 : zp_n F' (A 11) 1 = 0 := Int.le_antisymm w11_1.2 w11_1.1
  have wz : ∀ o j, ((30 ≤ o ∧ o < 40) ∨ (50 ≤ o ∧ o < 53)) → zp_n F' (A o) (2000 + j) = 0 := fun o j ho => by
    have ho : o = 30 ∨ o = 31 ∨ o = 32 ∨ o = 33 ∨ o = 34 ∨ o = 35 ∨ o = 36 ∨ o = 37 ∨ o = 38 ∨ o = 39 ∨ o = 50 ∨ o = 51 ∨ o = 52 := by omega
    rcases ho with rfl | rfl | rfl | rfl | rfl | rfl | rfl | rfl | rfl | rfl | rfl | rfl | rfl
    · exact zl_z0 (t := 103) (n := 64) (by rw [hwW]; rfl) g5 (hAt (30, 103) (by decide)) j
    · exact zl_z0 (t := 104) (n := 6) (by rw [hwW]; rfl) g5 (hAt (31, 104) (by decide)) j
    · exact zl_z0 (t := 105) (n := 10) (by rw [hwW]; rfl) g5 (hAt (32, 105) (by decide)) j
    · exact zl_z0 (t := 106) (n := 10) (by rw [hwW]; rfl) g5 (hAt (33, 106) (by decide)) j
    · exact zl_z0 (t := 107) (n := 10) (by rw [hwW]; rfl) g5 (hAt (34, 107) (by decide)) j
    · exact zl_z0 (t := 108) (n := 10) (by rw [hwW]; rfl) g5 (hAt (35, 108) (by decide)) j
    · exact zl_z0 (t := 109) (n := 10) (by rw [hwW]; rfl) g5 (hAt (36, 109) (by decide)) j
    · exact zl_z0 (t := 110) (n := 8) (by rw [hwW]; rfl) g5 (hAt (37, 110) (by decide)) j
    · exact zl_z0 (t := 111) (n := 8) (by rw [hwW]; rfl) g5 (hAt (38, 111) (by decide)) j
    · exact zl_z0 (t := 112) (n := 8) (by rw [hwW]; rfl) g5 (hAt (39, 112) (by decide)) j
    · exact zl_z0 (t := 118) (n := 6) (by rw [hwW]; rfl) g5 (hAt (50, 118) (by decide)) j
    · exact zl_z0 (t := 119) (n := 6) (by rw [hwW]; rfl) g5 (hAt (51, 119) (by decide)) j
    · exact zl_z0 (t := 120) (n := 10) (by rw [hwW]; rfl) g5 (hAt (52, 120) (by decide)) j
  have hR : zl_R xa ma (zl_Pm P') (zp_n F') := ⟨A, zYc, zFc, fun o k => zp_n F' (A o) k, B, fun o k => zp_n F' (B o) k, ⟨_, m1, fun _ _ _ => rfl, trivial⟩, ⟨fun _ h => h, fun _ h => h, fun _ h => Or.inl h, fun _ h => Or.inl h⟩, hA0, ⟨_, m4, fun _ _ _ => rfl, fun j hj => by have h7 := zl_b75 hwW g5 (hBt (35, 75) (by decide)) j hj; exact ⟨h7.1, Int.le_trans h7.2 (by decide)⟩⟩, hB0, zFull_1 hV3 ⟨v0_1, v0_8, v0_11, v0_13, v0_18, v0_20, v0_30, v0_47, v0_59, v0_63⟩ (zl_z0 (t := 115) (n := 7) (by rw [hwW]; rfl) g5 (hBt (2, 115) (by decide))) (zl_z0 (t := 116) (n := 400) (by rw [hwW]; rfl) g5 (hBt (12, 116) (by decide))) (zl_kp0 hwW g5 (hBt (5, 97) (by decide))) ⟨w31, w32, w33⟩ ⟨w1_1, w1_3, w1_9, w1_14, w1_15, w1_16, w1_17⟩ ⟨w2_3, w2_4, w2_5, w2_6⟩ wz ⟨w3_3, w3_2.1, w3_2.2⟩ ⟨w0_15, w0_17, w0_18⟩ (zl_z0 (t := 113) (n := 5) (by rw [hwW]; rfl) g5 (hAt (20, 113) (by decide))) w12_2 w6_3 (zl_im hwW g5 (hAt (22, 96) (by decide))) w11_1 (zl_z0 (t := 114) (n := 400) (by rw [hwW]; rfl) g5 (hAt (71, 114) (by decide)))⟩
  exact zl_loop hC hr hlocks 514 0 (zl_Pm P') F' H' locs' ls' (by decide) (by decide) ⟨zl_retype hwW g5, g9, fun t a h => (zl_Pme (x45 a t (x4 a t (htx t a h)))).trans (congrArg some (zl_mtt (Nat.le_trans (by decide) h.1)))⟩ h12 h13 hR hlv
