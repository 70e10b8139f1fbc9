/-! part 8f: the law's start and loop -/
def zl_Kl : zk_K := (x, code, 4, ret, 0, 0, [], [], [], (2048, 84000, 600000, 7302250))
def zl_lk : List (zk_L × List Nat) := [((3, 7, 11, 20, 0), [136, 137, 115]), ((3, 10, 12, 64, 0), [1337, 1338, 128])]
def zl_lc : List ((Nat × Nat × Nat) × List Nat) := [((2, 9, 0), [138, 115, 139]), ((2, 12, 181), [1339, 128, 1340])]
theorem zl_lks : zl_lk.all (zt_lkb "WoundTownLaw") = true := by decide +kernel
theorem zl_lcs : zl_lc.all (zt_lcb "WoundTownLaw") = true := by decide +kernel
def zl_E : zk_Ev := (zt_types, zl_lk.map (fun r => r.1), zt_dv, [zK_3011, zK_3100], [0, 181], zl_lc.map (fun r => r.1), zl_Kl)
def zl_CL : List zk_Ci := [(0, .new 7, 3, 0, []), (3, .dup, 1, 0, []), (4, .invokespecial 9, 3, 0, []), (7, .astore_n 1, 1, 0, []), (8, .new 10, 3, 0, []), (11, .dup, 1, 0, []), (12, .invokespecial 12, 3, 1, []), (15, .astore_n 2, 1, 0, []), (16, .iconst 0, 1, 0, []), (17, .istore_n 3, 1, 0, [])]
theorem zl_dCL : ∀ q ∈ zl_CL, decode code q.1 = .ok (q.2.1, q.2.2.1) := by decide +kernel
def zl_k0 : zk_C := (zk_V0 ++ [(3, 0, 0, 0)], [], [], [], [(0, (3, 0))], [(0, 3)], [])
def zl_k1 : zk_C := (zk_V0 ++ [(3, 0, 0, 0), (2, 101, 0, 0), (2, 102, 0, 0)], [], [], [], [(0, (3, 0)), (1, (4, 0)), (2, (5, 0)), (3, (0, 0))], [(0, 3)], [])
def zl_A : zk_An := (18, zl_k1, [], 100, 26066, (0, []))
theorem zl_chk : (zk_go (zh_Es zl_E [(3, 0, 0, 0)] []) zl_CL [zl_A] none 40 0 zl_k0 [] 0 0 && ([] : List zk_An).all (fun A => A.2.2.2.2.2.2.all (fun t => decide (t.2 < A.2.1.1.length)) && (match zk_lbd A.2.1.1 A.2.2.2.2.2.2 with
    | some b => decide (0 ≤ A.2.2.2.2.2.1 + b)
    | none => false) && zk_go (zh_Es zl_E [(3, 0, 0, 0)] []) zl_CL [zl_A] (some A.2.2.2.2.2) 40 A.1 A.2.1 A.2.2.1 A.2.2.2.1 A.2.2.2.2.1)) = true := by decide +kernel
/-- the texts' types -/
def zl_P (ad : Nat → Nat) (a : Nat) : Option Nat := ((List.range 10).find? (fun i => ad i == a)).map (fun i => 200 + i)
theorem zl_P1 {ad : Nat → Nat} {a t : Nat} (h : zl_P ad a = some t) : 200 ≤ t ∧ t < 210 ∧ a = ad (t - 200) := by
  unfold zl_P at h
  cases hf : (List.range 10).find? (fun i => ad i == a) with
  | none => rw [hf] at h; cases h
  | some i =>
    rw [hf] at h
    have h : some (200 + i) = some t := h
    obtain rfl := Option.some.inj h
    have h1 := List.find?_some hf
    have h2 := List.mem_range.mp (List.mem_of_find?_eq_some hf)
    have h1 : ad i = a := by simpa using h1
    exact ⟨by omega, by omega, by rw [Nat.add_sub_cancel_left, h1]⟩
theorem zl_P2 {ad : Nat → Nat} (hinj : ∀ i j, i < 10 → j < 10 → ad i = ad j → i = j) {t a : Nat} (h : 200 ≤ t ∧ t < 210 ∧ a = ad (t - 200)) : zl_P ad a = some t := by
  obtain ⟨h0, h1, rfl⟩ := h
  unfold zl_P
  cases hf : (List.range 10).find? (fun i => ad i == ad (t - 200)) with
  | none =>
    have := List.find?_eq_none.mp hf (t - 200) (List.mem_range.mpr (by omega))
    simp at this
  | some i =>
    have h2 := List.find?_some hf
    have h3 := List.mem_range.mp (List.mem_of_find?_eq_some hf)
    have h2 : ad i = ad (t - 200) := by simpa using h2
    have := hinj i (t - 200) h3 (by omega) h2
    show some (200 + i) = some t
    congr 1
    omega
theorem zl_relb : zk_rel.all (fun r => decide (r.1 < 200)) = true := by decide +kernel
theorem zl_wt {s : State} {D : va_G} {ad : Nat → Nat} (had : ∀ i, i < 10 → ad i < s.heap.size) {F : Nat → va_E} : zk_wt (zl_w s D ad) s (zl_P ad) F s.heap := by
  intro a t hp
  obtain ⟨h0, h1, h2⟩ := zl_P1 hp
  unfold zk_wt1
  rw [show (zl_w s D ad).1[t]? = none from List.getElem?_eq_none (by have : zt_types.length ≤ 200 := by decide +kernel
                                                                     show zt_types.length ≤ t
                                                                     omega)]
  refine ⟨by show a < s.heap.size; rw [h2]; exact had _ (by omega), ⟨h0, h1, h2⟩, List.all_eq_true.mpr (fun r hr => ?_)⟩
  have := of_decide_eq_true (List.all_eq_true.mp zl_relb r hr)
  rw [bne_iff_ne]
  omega
section ZL8F
variable {p : Program} {l : Launch} {e : Env} {s : State} {m : MethodId} {below : List Frame} {meth : Method} {c : Code} {w : zk_W} {b L : Nat} {xs : Nat → Int32}
theorem zl_len6 (hL : L ≤ 3072) : (Int32.ofNat L - 6 : Int32).toInt = (L : Int) - 6 := by
  rw [show (Int32.ofNat L : Int32) = Int32.ofInt (L : Int) from rfl, show (6 : Int32) = Int32.ofInt 6 from rfl, ← Int32.ofInt_sub]
  exact zk_i32 ⟨by omega, by omega⟩
theorem zl_loop (hC : zl_C p s m #[Value.ref b] c w b L xs) (hr : meth.sig.returnType = ret) (hlocks : meth.locks = false) {xa ma : Nat} : ∀ (n j : Nat) (P : Nat → Option Nat) (F : Nat → va_E) (H : Heap) (locs : List Loc) (ls : Array Slot), 513 - j < n → 6 * j ≤ 3072 → zl_I w s P F H locs → P xa = some 12 → P ma = some 13 → zl_R xa ma P (zp_n F) → lv_has ls 4 [(0, .ref b), (1, .ref xa), (2, .ref ma), (3, .int (nI (6 * j)))] → W p l e room_1 s m #[Value.ref b] below meth c H locs (100 + 16 * j) (26066 + 940 * j) (lw_Z below #[Value.ref b] s) (F0 m 18 ls []) := by
  intro n
  induction n with
  | zero => intro j P F H locs ls h; exact absurd h (Nat.not_lt_zero _)
  | succ n ih =>
    intro j P F H locs ls hn h6 hI h12 h13 hR hl
    have hx := hC.1
    have hb := hC.2.1
    have hbs := hC.2.2.2.2.2.1
    have hX := hC.2.2.2.2.2.2.2.2.2.1
    have hbl := hC.2.2.2.2.2.2.2.2.2.2.1
    have hL : L ≤ 3072 := hC.2.2.2.2.2.2.2.2.2.2.2
    have tj : (nI (6 * j)).toInt = ((6 * j : Nat) : Int) := nI_toInt (by omega)
    refine lv_iload_n (pc := 18) (k := 3) (i := 3) hx hb (zd_law0 (18, .iload_n 3, 1, 0, []) (List.mem_of_getElem? (i := 10) rfl)) rfl (lv_at hl 3 rfl) ?_
    refine lv_aload_n (pc := 19) (k := 0) (i := 0) hx hb (zd_law0 (19, .aload_n 0, 1, 0, []) (List.mem_of_getElem? (i := 11) rfl)) rfl (lv_at hl 0 rfl) ?_
    refine va_slen (pc := 20) (A := fun q => w.2.2.2.1 ≤ q) hx hb hX hbl (by rw [hbs]; exact Nat.not_le.mpr hbl) hI.2.1 (zd_law0 (20, .arraylength, 1, 0, []) (List.mem_of_getElem? (i := 12) rfl)) ?_
    refine lv_bipush (pc := 21) (n := 6) (v := 6) hx hb (zd_law0 (21, .bipush 6, 2, 0, []) (List.mem_of_getElem? (i := 13) rfl)) (by decide) ?_
    refine lv_isub (pc := 23) hx hb (zd_law0 (23, .isub, 1, 0, []) (List.mem_of_getElem? (i := 14) rfl)) ?_
    refine lv_icmp_gt (pc := 24) (tgt := 1378) hx hb (zd_law0 (24, .if_icmp .gt 1354, 3, 0, []) (List.mem_of_getElem? (i := 15) rfl)) (by decide) (fun _ => ?_) (fun hc => ?_)
    · refine lv_iconst (pc := 1378) (n := 1) (v := 1) hx hb (zd_law23 (1378, .iconst 1, 1, 0, []) (List.mem_of_getElem? (i := 8) rfl)) (by decide) ?_
      refine va_forget (fun q hq => by have := hI.2.1.2.2 q hq; rw [hbs] at this; exact this) ?_
      refine W.widen (k := 600000) (n := 7302250) (by omega) (by omega) ?_
      exact lw_ret hx hb hr hlocks (zd_law23 (1379, .ireturn, 1, 0, []) (List.mem_of_getElem? (i := 9) rfl))
    · have hj : 6 * j + 5 < L := by
        rw [Int32.lt_iff_toInt_lt, tj, zl_len6 hL] at hc
        omega
      have next : ∀ (P' : Nat → Option Nat) (F' : Nat → va_E) (H' : Heap) (locs' : List Loc), zl_I w s P' F' H' locs' → P' xa = some 12 → P' ma = some 13 → zl_R xa ma P' (zp_n F') → W p l e room_1 s m #[Value.ref b] below meth c H' locs' (100 + 16 * j + 16) (26066 + 940 * j + 940) (lw_Z below #[Value.ref b] s) (F0 m 1372 ls []) := by
        intro P' F' H' locs' hI' h12' h13' hR'
        refine lv_iinc (pc := 1372) (v := nI (6 * (j + 1))) (lv' := [(3, .int (nI (6 * (j + 1)))), (0, .ref b), (1, .ref xa), (2, .ref ma)]) hx hb (zd_law23 (1372, .iinc 3 6, 3, 0, []) (List.mem_of_getElem? (i := 6) rfl)) hl (k := 3) rfl (by rw [show Int32.ofInt 6 = nI 6 from rfl, nI_add]; rfl) (by decide) rfl (fun ls' hl' => ?_)
        refine lv_goto (pc := 1375) (tgt := 18) hx hb (zd_law23 (1375, .goto (-1357), 3, 0, []) (List.mem_of_getElem? (i := 7) rfl)) (by decide) ?_
        have := ih (j + 1) P' F' H' locs' ls' (by omega) (by omega) hI' h12' h13' hR' (lv_sub hl' [1, 2, 3, 0] rfl)
        rw [show 100 + 16 * (j + 1) = 100 + 16 * j + 16 by omega, show 26066 + 940 * (j + 1) = 26066 + 940 * j + 940 by omega] at this
        exact this
      refine lv_aload_n (pc := 27) (k := 0) (i := 0) hx hb (zd_law0 (27, .aload_n 0, 1, 0, []) (List.mem_of_getElem? (i := 16) rfl)) rfl (lv_at hl 0 rfl) ?_
      refine lv_iload_n (pc := 28) (k := 3) (i := 3) hx hb (zd_law0 (28, .iload_n 3, 1, 0, []) (List.mem_of_getElem? (i := 17) rfl)) rfl (lv_at hl 3 rfl) ?_
      refine zl_ld (pc := 29) (j := j) (k := 0) hC hI (by omega) (zd_law0 (29, .iaload, 1, 0, []) (List.mem_of_getElem? (i := 18) rfl)) ?_
      refine lv_bipush (pc := 30) (n := 63) (v := 63) hx hb (zd_law0 (30, .bipush 63, 2, 0, []) (List.mem_of_getElem? (i := 19) rfl)) (by decide) ?_
      refine lv_iand (pc := 32) hx hb (zd_law0 (32, .iand, 1, 0, []) (List.mem_of_getElem? (i := 20) rfl)) ?_
      have hf : 100 + 16 * j + 16 ≤ 600000 ∧ 26066 + 940 * j + 940 ≤ 7302250 := ⟨by omega, by omega⟩
      generalize (Int32.ofInt (zl_y xs j 0) &&& 63 : Int32) = v
      by_cases hv : v.toInt < 0 ∨ 41 < v.toInt
      · refine lv_tableOut (pc := 33) (tgt := 1372) hx hb (zd_law0 (33, .tableswitch 1339 0 41 #[183, 226, 259, 292, 325, 388, 421, 454, 517, 540, 553, 566, 579, 592, 605, 618, 641, 674, 697, 730, 743, 766, 779, 822, 865, 898, 921, 964, 997, 1020, 1053, 1096, 1109, 1122, 1145, 1178, 1201, 1234, 1257, 1280, 1303, 1326], 183, 0, []) (List.mem_of_getElem? (i := 21) rfl)) hv (by decide) ?_
        exact W.widen (Nat.le_add_right _ _) (Nat.le_add_right _ _) (next P F H locs hI h12 h13 hR)
      · have hv : v.toInt = 0 ∨ v.toInt = 1 ∨ v.toInt = 2 ∨ v.toInt = 3 ∨ v.toInt = 4 ∨ v.toInt = 5 ∨ v.toInt = 6 ∨ v.toInt = 7 ∨ v.toInt = 8 ∨ v.toInt = 9 ∨ v.toInt = 10 ∨ v.toInt = 11 ∨ v.toInt = 12 ∨ v.toInt = 13 ∨ v.toInt = 14 ∨ v.toInt = 15 ∨ v.toInt = 16 ∨ v.toInt = 17 ∨ v.toInt = 18 ∨ v.toInt = 19 ∨ v.toInt = 20 ∨ v.toInt = 21 ∨ v.toInt = 22 ∨ v.toInt = 23 ∨ v.toInt = 24 ∨ v.toInt = 25 ∨ v.toInt = 26 ∨ v.toInt = 27 ∨ v.toInt = 28 ∨ v.toInt = 29 ∨ v.toInt = 30 ∨ v.toInt = 31 ∨ v.toInt = 32 ∨ v.toInt = 33 ∨ v.toInt = 34 ∨ v.toInt = 35 ∨ v.toInt = 36 ∨ v.toInt = 37 ∨ v.toInt = 38 ∨ v.toInt = 39 ∨ v.toInt = 40 ∨ v.toInt = 41 := by omega
        rcases hv with hv | hv | hv | hv | hv | hv | hv | hv | hv | hv | hv | hv | hv | hv | hv | hv | hv | hv | hv | hv | hv | hv | hv | hv | hv | hv | hv | hv | hv | hv | hv | hv | hv | hv | hv | hv | hv | hv | hv | hv | hv | hv
        · exact lv_tableIn (pc := 33) (off := 183) (tgt := 216) hx hb (zd_law0 (33, .tableswitch 1339 0 41 #[183, 226, 259, 292, 325, 388, 421, 454, 517, 540, 553, 566, 579, 592, 605, 618, 641, 674, 697, 730, 743, 766, 779, 822, 865, 898, 921, 964, 997, 1020, 1053, 1096, 1109, 1122, 1145, 1178, 1201, 1234, 1257, 1280, 1303, 1326], 183, 0, []) (List.mem_of_getElem? (i := 21) rfl)) (by omega) (by omega) (by rw [hv]; rfl) (by decide) (zl_c0 hC hj hl hI h12 h13 hR hf next)
        · exact lv_tableIn (pc := 33) (off := 226) (tgt := 259) hx hb (zd_law0 (33, .tableswitch 1339 0 41 #[183, 226, 259, 292, 325, 388, 421, 454, 517, 540, 553, 566, 579, 592, 605, 618, 641, 674, 697, 730, 743, 766, 779, 822, 865, 898, 921, 964, 997, 1020, 1053, 1096, 1109, 1122, 1145, 1178, 1201, 1234, 1257, 1280, 1303, 1326], 183, 0, []) (List.mem_of_getElem? (i := 21) rfl)) (by omega) (by omega) (by rw [hv]; rfl) (by decide) (zl_c1 hC hj hl hI h12 h13 hR hf next)
        · exact lv_tableIn (pc := 33) (off := 259) (tgt := 292) hx hb (zd_law0 (33, .tableswitch 1339 0 41 #[183, 226, 259, 292, 325, 388, 421, 454, 517, 540, 553, 566, 579, 592, 605, 618, 641, 674, 697, 730, 743, 766, 779, 822, 865, 898, 921, 964, 997, 1020, 1053, 1096, 1109, 1122, 1145, 1178, 1201, 1234, 1257, 1280, 1303, 1326], 183, 0, []) (List.mem_of_getElem? (i := 21) rfl)) (by omega) (by omega) (by rw [hv]; rfl) (by decide) (zl_c2 hC hj hl hI h12 h13 hR hf next)
        · exact lv_tableIn (pc := 33) (off := 292) (tgt := 325) hx hb (zd_law0 (33, .tableswitch 1339 0 41 #[183, 226, 259, 292, 325, 388, 421, 454, 517, 540, 553, 566, 579, 592, 605, 618, 641, 674, 697, 730, 743, 766, 779, 822, 865, 898, 921, 964, 997, 1020, 1053, 1096, 1109, 1122, 1145, 1178, 1201, 1234, 1257, 1280, 1303, 1326], 183, 0, []) (List.mem_of_getElem? (i := 21) rfl)) (by omega) (by omega) (by rw [hv]; rfl) (by decide) (zl_c3 hC hj hl hI h12 h13 hR hf next)
        · exact lv_tableIn (pc := 33) (off := 325) (tgt := 358) hx hb (zd_law0 (33, .tableswitch 1339 0 41 #[183, 226, 259, 292, 325, 388, 421, 454, 517, 540, 553, 566, 579, 592, 605, 618, 641, 674, 697, 730, 743, 766, 779, 822, 865, 898, 921, 964, 997, 1020, 1053, 1096, 1109, 1122, 1145, 1178, 1201, 1234, 1257, 1280, 1303, 1326], 183, 0, []) (List.mem_of_getElem? (i := 21) rfl)) (by omega) (by omega) (by rw [hv]; rfl) (by decide) (zl_c4 hC hj hl hI h12 h13 hR hf next)
        · exact lv_tableIn (pc := 33) (off := 388) (tgt := 421) hx hb (zd_law0 (33, .tableswitch 1339 0 41 #[183, 226, 259, 292, 325, 388, 421, 454, 517, 540, 553, 566, 579, 592, 605, 618, 641, 674, 697, 730, 743, 766, 779, 822, 865, 898, 921, 964, 997, 1020, 1053, 1096, 1109, 1122, 1145, 1178, 1201, 1234, 1257, 1280, 1303, 1326], 183, 0, []) (List.mem_of_getElem? (i := 21) rfl)) (by omega) (by omega) (by rw [hv]; rfl) (by decide) (zl_c5 hC hj hl hI h12 h13 hR hf next)
        · exact lv_tableIn (pc := 33) (off := 421) (tgt := 454) hx hb (zd_law0 (33, .tableswitch 1339 0 41 #[183, 226, 259, 292, 325, 388, 421, 454, 517, 540, 553, 566, 579, 592, 605, 618, 641, 674, 697, 730, 743, 766, 779, 822, 865, 898, 921, 964, 997, 1020, 1053, 1096, 1109, 1122, 1145, 1178, 1201, 1234, 1257, 1280, 1303, 1326], 183, 0, []) (List.mem_of_getElem? (i := 21) rfl)) (by omega) (by omega) (by rw [hv]; rfl) (by decide) (zl_c6 hC hj hl hI h12 h13 hR hf next)
        · exact lv_tableIn (pc := 33) (off := 454) (tgt := 487) hx hb (zd_law0 (33, .tableswitch 1339 0 41 #[183, 226, 259, 292, 325, 388, 421, 454, 517, 540, 553, 566, 579, 592, 605, 618, 641, 674, 697, 730, 743, 766, 779, 822, 865, 898, 921, 964, 997, 1020, 1053, 1096, 1109, 1122, 1145, 1178, 1201, 1234, 1257, 1280, 1303, 1326], 183, 0, []) (List.mem_of_getElem? (i := 21) rfl)) (by omega) (by omega) (by rw [hv]; rfl) (by decide) (zl_c7 hC hj hl hI h12 h13 hR hf next)
        · exact lv_tableIn (pc := 33) (off := 517) (tgt := 550) hx hb (zd_law0 (33, .tableswitch 1339 0 41 #[183, 226, 259, 292, 325, 388, 421, 454, 517, 540, 553, 566, 579, 592, 605, 618, 641, 674, 697, 730, 743, 766, 779, 822, 865, 898, 921, 964, 997, 1020, 1053, 1096, 1109, 1122, 1145, 1178, 1201, 1234, 1257, 1280, 1303, 1326], 183, 0, []) (List.mem_of_getElem? (i := 21) rfl)) (by omega) (by omega) (by rw [hv]; rfl) (by decide) (zl_c8 hC hj hl hI h12 h13 hR hf next)
        · exact lv_tableIn (pc := 33) (off := 540) (tgt := 573) hx hb (zd_law0 (33, .tableswitch 1339 0 41 #[183, 226, 259, 292, 325, 388, 421, 454, 517, 540, 553, 566, 579, 592, 605, 618, 641, 674, 697, 730, 743, 766, 779, 822, 865, 898, 921, 964, 997, 1020, 1053, 1096, 1109, 1122, 1145, 1178, 1201, 1234, 1257, 1280, 1303, 1326], 183, 0, []) (List.mem_of_getElem? (i := 21) rfl)) (by omega) (by omega) (by rw [hv]; rfl) (by decide) (zl_c9 hC hj hl hI h12 h13 hR hf next)
        · exact lv_tableIn (pc := 33) (off := 553) (tgt := 586) hx hb (zd_law0 (33, .tableswitch 1339 0 41 #[183, 226, 259, 292, 325, 388, 421, 454, 517, 540, 553, 566, 579, 592, 605, 618, 641, 674, 697, 730, 743, 766, 779, 822, 865, 898, 921, 964, 997, 1020, 1053, 1096, 1109, 1122, 1145, 1178, 1201, 1234, 1257, 1280, 1303, 1326], 183, 0, []) (List.mem_of_getElem? (i := 21) rfl)) (by omega) (by omega) (by rw [hv]; rfl) (by decide) (zl_c10 hC hj hl hI h12 h13 hR hf next)
        · exact lv_tableIn (pc := 33) (off := 566) (tgt := 599) hx hb (zd_law0 (33, .tableswitch 1339 0 41 #[183, 226, 259, 292, 325, 388, 421, 454, 517, 540, 553, 566, 579, 592, 605, 618, 641, 674, 697, 730, 743, 766, 779, 822, 865, 898, 921, 964, 997, 1020, 1053, 1096, 1109, 1122, 1145, 1178, 1201, 1234, 1257, 1280, 1303, 1326], 183, 0, []) (List.mem_of_getElem? (i := 21) rfl)) (by omega) (by omega) (by rw [hv]; rfl) (by decide) (zl_c11 hC hj hl hI h12 h13 hR hf next)
        · exact lv_tableIn (pc := 33) (off := 579) (tgt := 612) hx hb (zd_law0 (33, .tableswitch 1339 0 41 #[183, 226, 259, 292, 325, 388, 421, 454, 517, 540, 553, 566, 579, 592, 605, 618, 641, 674, 697, 730, 743, 766, 779, 822, 865, 898, 921, 964, 997, 1020, 1053, 1096, 1109, 1122, 1145, 1178, 1201, 1234, 1257, 1280, 1303, 1326], 183, 0, []) (List.mem_of_getElem? (i := 21) rfl)) (by omega) (by omega) (by rw [hv]; rfl) (by decide) (zl_c12 hC hj hl hI h12 h13 hR hf next)
        · exact lv_tableIn (pc := 33) (off := 592) (tgt := 625) hx hb (zd_law0 (33, .tableswitch 1339 0 41 #[183, 226, 259, 292, 325, 388, 421, 454, 517, 540, 553, 566, 579, 592, 605, 618, 641, 674, 697, 730, 743, 766, 779, 822, 865, 898, 921, 964, 997, 1020, 1053, 1096, 1109, 1122, 1145, 1178, 1201, 1234, 1257, 1280, 1303, 1326], 183, 0, []) (List.mem_of_getElem? (i := 21) rfl)) (by omega) (by omega) (by rw [hv]; rfl) (by decide) (zl_c13 hC hj hl hI h12 h13 hR hf next)
        · exact lv_tableIn (pc := 33) (off := 605) (tgt := 638) hx hb (zd_law0 (33, .tableswitch 1339 0 41 #[183, 226, 259, 292, 325, 388, 421, 454, 517, 540, 553, 566, 579, 592, 605, 618, 641, 674, 697, 730, 743, 766, 779, 822, 865, 898, 921, 964, 997, 1020, 1053, 1096, 1109, 1122, 1145, 1178, 1201, 1234, 1257, 1280, 1303, 1326], 183, 0, []) (List.mem_of_getElem? (i := 21) rfl)) (by omega) (by omega) (by rw [hv]; rfl) (by decide) (zl_c14 hC hj hl hI h12 h13 hR hf next)
        · exact lv_tableIn (pc := 33) (off := 618) (tgt := 651) hx hb (zd_law0 (33, .tableswitch 1339 0 41 #[183, 226, 259, 292, 325, 388, 421, 454, 517, 540, 553, 566, 579, 592, 605, 618, 641, 674, 697, 730, 743, 766, 779, 822, 865, 898, 921, 964, 997, 1020, 1053, 1096, 1109, 1122, 1145, 1178, 1201, 1234, 1257, 1280, 1303, 1326], 183, 0, []) (List.mem_of_getElem? (i := 21) rfl)) (by omega) (by omega) (by rw [hv]; rfl) (by decide) (zl_c15 hC hj hl hI h12 h13 hR hf next)
        · exact lv_tableIn (pc := 33) (off := 641) (tgt := 674) hx hb (zd_law0 (33, .tableswitch 1339 0 41 #[183, 226, 259, 292, 325, 388, 421, 454, 517, 540, 553, 566, 579, 592, 605, 618, 641, 674, 697, 730, 743, 766, 779, 822, 865, 898, 921, 964, 997, 1020, 1053, 1096, 1109, 1122, 1145, 1178, 1201, 1234, 1257, 1280, 1303, 1326], 183, 0, []) (List.mem_of_getElem? (i := 21) rfl)) (by omega) (by omega) (by rw [hv]; rfl) (by decide) (zl_c16 hC hj hl hI h12 h13 hR hf next)
        · exact lv_tableIn (pc := 33) (off := 674) (tgt := 707) hx hb (zd_law0 (33, .tableswitch 1339 0 41 #[183, 226, 259, 292, 325, 388, 421, 454, 517, 540, 553, 566, 579, 592, 605, 618, 641, 674, 697, 730, 743, 766, 779, 822, 865, 898, 921, 964, 997, 1020, 1053, 1096, 1109, 1122, 1145, 1178, 1201, 1234, 1257, 1280, 1303, 1326], 183, 0, []) (List.mem_of_getElem? (i := 21) rfl)) (by omega) (by omega) (by rw [hv]; rfl) (by decide) (zl_c17 hC hj hl hI h12 h13 hR hf next)
        · exact lv_tableIn (pc := 33) (off := 697) (tgt := 730) hx hb (zd_law0 (33, .tableswitch 1339 0 41 #[183, 226, 259, 292, 325, 388, 421, 454, 517, 540, 553, 566, 579, 592, 605, 618, 641, 674, 697, 730, 743, 766, 779, 822, 865, 898, 921, 964, 997, 1020, 1053, 1096, 1109, 1122, 1145, 1178, 1201, 1234, 1257, 1280, 1303, 1326], 183, 0, []) (List.mem_of_getElem? (i := 21) rfl)) (by omega) (by omega) (by rw [hv]; rfl) (by decide) (zl_c18 hC hj hl hI h12 h13 hR hf next)
        · exact lv_tableIn (pc := 33) (off := 730) (tgt := 763) hx hb (zd_law0 (33, .tableswitch 1339 0 41 #[183, 226, 259, 292, 325, 388, 421, 454, 517, 540, 553, 566, 579, 592, 605, 618, 641, 674, 697, 730, 743, 766, 779, 822, 865, 898, 921, 964, 997, 1020, 1053, 1096, 1109, 1122, 1145, 1178, 1201, 1234, 1257, 1280, 1303, 1326], 183, 0, []) (List.mem_of_getElem? (i := 21) rfl)) (by omega) (by omega) (by rw [hv]; rfl) (by decide) (zl_c19 hC hj hl hI h12 h13 hR hf next)
        · exact lv_tableIn (pc := 33) (off := 743) (tgt := 776) hx hb (zd_law0 (33, .tableswitch 1339 0 41 #[183, 226, 259, 292, 325, 388, 421, 454, 517, 540, 553, 566, 579, 592, 605, 618, 641, 674, 697, 730, 743, 766, 779, 822, 865, 898, 921, 964, 997, 1020, 1053, 1096, 1109, 1122, 1145, 1178, 1201, 1234, 1257, 1280, 1303, 1326], 183, 0, []) (List.mem_of_getElem? (i := 21) rfl)) (by omega) (by omega) (by rw [hv]; rfl) (by decide) (zl_c20 hC hj hl hI h12 h13 hR hf next)
        · exact lv_tableIn (pc := 33) (off := 766) (tgt := 799) hx hb (zd_law0 (33, .tableswitch 1339 0 41 #[183, 226, 259, 292, 325, 388, 421, 454, 517, 540, 553, 566, 579, 592, 605, 618, 641, 674, 697, 730, 743, 766, 779, 822, 865, 898, 921, 964, 997, 1020, 1053, 1096, 1109, 1122, 1145, 1178, 1201, 1234, 1257, 1280, 1303, 1326], 183, 0, []) (List.mem_of_getElem? (i := 21) rfl)) (by omega) (by omega) (by rw [hv]; rfl) (by decide) (zl_c21 hC hj hl hI h12 h13 hR hf next)
        · exact lv_tableIn (pc := 33) (off := 779) (tgt := 812) hx hb (zd_law0 (33, .tableswitch 1339 0 41 #[183, 226, 259, 292, 325, 388, 421, 454, 517, 540, 553, 566, 579, 592, 605, 618, 641, 674, 697, 730, 743, 766, 779, 822, 865, 898, 921, 964, 997, 1020, 1053, 1096, 1109, 1122, 1145, 1178, 1201, 1234, 1257, 1280, 1303, 1326], 183, 0, []) (List.mem_of_getElem? (i := 21) rfl)) (by omega) (by omega) (by rw [hv]; rfl) (by decide) (zl_c22 hC hj hl hI h12 h13 hR hf next)
        · exact lv_tableIn (pc := 33) (off := 822) (tgt := 855) hx hb (zd_law0 (33, .tableswitch 1339 0 41 #[183, 226, 259, 292, 325, 388, 421, 454, 517, 540, 553, 566, 579, 592, 605, 618, 641, 674, 697, 730, 743, 766, 779, 822, 865, 898, 921, 964, 997, 1020, 1053, 1096, 1109, 1122, 1145, 1178, 1201, 1234, 1257, 1280, 1303, 1326], 183, 0, []) (List.mem_of_getElem? (i := 21) rfl)) (by omega) (by omega) (by rw [hv]; rfl) (by decide) (zl_c23 hC hj hl hI h12 h13 hR hf next)
        · exact lv_tableIn (pc := 33) (off := 865) (tgt := 898) hx hb (zd_law0 (33, .tableswitch 1339 0 41 #[183, 226, 259, 292, 325, 388, 421, 454, 517, 540, 553, 566, 579, 592, 605, 618, 641, 674, 697, 730, 743, 766, 779, 822, 865, 898, 921, 964, 997, 1020, 1053, 1096, 1109, 1122, 1145, 1178, 1201, 1234, 1257, 1280, 1303, 1326], 183, 0, []) (List.mem_of_getElem? (i := 21) rfl)) (by omega) (by omega) (by rw [hv]; rfl) (by decide) (zl_c24 hC hj hl hI h12 h13 hR hf next)
        · exact lv_tableIn (pc := 33) (off := 898) (tgt := 931) hx hb (zd_law0 (33, .tableswitch 1339 0 41 #[183, 226, 259, 292, 325, 388, 421, 454, 517, 540, 553, 566, 579, 592, 605, 618, 641, 674, 697, 730, 743, 766, 779, 822, 865, 898, 921, 964, 997, 1020, 1053, 1096, 1109, 1122, 1145, 1178, 1201, 1234, 1257, 1280, 1303, 1326], 183, 0, []) (List.mem_of_getElem? (i := 21) rfl)) (by omega) (by omega) (by rw [hv]; rfl) (by decide) (zl_c25 hC hj hl hI h12 h13 hR hf next)
        · exact lv_tableIn (pc := 33) (off := 921) (tgt := 954) hx hb (zd_law0 (33, .tableswitch 1339 0 41 #[183, 226, 259, 292, 325, 388, 421, 454, 517, 540, 553, 566, 579, 592, 605, 618, 641, 674, 697, 730, 743, 766, 779, 822, 865, 898, 921, 964, 997, 1020, 1053, 1096, 1109, 1122, 1145, 1178, 1201, 1234, 1257, 1280, 1303, 1326], 183, 0, []) (List.mem_of_getElem? (i := 21) rfl)) (by omega) (by omega) (by rw [hv]; rfl) (by decide) (zl_c26 hC hj hl hI h12 h13 hR hf next)
        · exact lv_tableIn (pc := 33) (off := 964) (tgt := 997) hx hb (zd_law0 (33, .tableswitch 1339 0 41 #[183, 226, 259, 292, 325, 388, 421, 454, 517, 540, 553, 566, 579, 592, 605, 618, 641, 674, 697, 730, 743, 766, 779, 822, 865, 898, 921, 964, 997, 1020, 1053, 1096, 1109, 1122, 1145, 1178, 1201, 1234, 1257, 1280, 1303, 1326], 183, 0, []) (List.mem_of_getElem? (i := 21) rfl)) (by omega) (by omega) (by rw [hv]; rfl) (by decide) (zl_c27 hC hj hl hI h12 h13 hR hf next)
        · exact lv_tableIn (pc := 33) (off := 997) (tgt := 1030) hx hb (zd_law0 (33, .tableswitch 1339 0 41 #[183, 226, 259, 292, 325, 388, 421, 454, 517, 540, 553, 566, 579, 592, 605, 618, 641, 674, 697, 730, 743, 766, 779, 822, 865, 898, 921, 964, 997, 1020, 1053, 1096, 1109, 1122, 1145, 1178, 1201, 1234, 1257, 1280, 1303, 1326], 183, 0, []) (List.mem_of_getElem? (i := 21) rfl)) (by omega) (by omega) (by rw [hv]; rfl) (by decide) (zl_c28 hC hj hl hI h12 h13 hR hf next)
        · exact lv_tableIn (pc := 33) (off := 1020) (tgt := 1053) hx hb (zd_law0 (33, .tableswitch 1339 0 41 #[183, 226, 259, 292, 325, 388, 421, 454, 517, 540, 553, 566, 579, 592, 605, 618, 641, 674, 697, 730, 743, 766, 779, 822, 865, 898, 921, 964, 997, 1020, 1053, 1096, 1109, 1122, 1145, 1178, 1201, 1234, 1257, 1280, 1303, 1326], 183, 0, []) (List.mem_of_getElem? (i := 21) rfl)) (by omega) (by omega) (by rw [hv]; rfl) (by decide) (zl_c29 hC hj hl hI h12 h13 hR hf next)
        · exact lv_tableIn (pc := 33) (off := 1053) (tgt := 1086) hx hb (zd_law0 (33, .tableswitch 1339 0 41 #[183, 226, 259, 292, 325, 388, 421, 454, 517, 540, 553, 566, 579, 592, 605, 618, 641, 674, 697, 730, 743, 766, 779, 822, 865, 898, 921, 964, 997, 1020, 1053, 1096, 1109, 1122, 1145, 1178, 1201, 1234, 1257, 1280, 1303, 1326], 183, 0, []) (List.mem_of_getElem? (i := 21) rfl)) (by omega) (by omega) (by rw [hv]; rfl) (by decide) (zl_c30 hC hj hl hI h12 h13 hR hf next)
        · exact lv_tableIn (pc := 33) (off := 1096) (tgt := 1129) hx hb (zd_law0 (33, .tableswitch 1339 0 41 #[183, 226, 259, 292, 325, 388, 421, 454, 517, 540, 553, 566, 579, 592, 605, 618, 641, 674, 697, 730, 743, 766, 779, 822, 865, 898, 921, 964, 997, 1020, 1053, 1096, 1109, 1122, 1145, 1178, 1201, 1234, 1257, 1280, 1303, 1326], 183, 0, []) (List.mem_of_getElem? (i := 21) rfl)) (by omega) (by omega) (by rw [hv]; rfl) (by decide) (zl_c31 hC hj hl hI h12 h13 hR hf next)
        · exact lv_tableIn (pc := 33) (off := 1109) (tgt := 1142) hx hb (zd_law0 (33, .tableswitch 1339 0 41 #[183, 226, 259, 292, 325, 388, 421, 454, 517, 540, 553, 566, 579, 592, 605, 618, 641, 674, 697, 730, 743, 766, 779, 822, 865, 898, 921, 964, 997, 1020, 1053, 1096, 1109, 1122, 1145, 1178, 1201, 1234, 1257, 1280, 1303, 1326], 183, 0, []) (List.mem_of_getElem? (i := 21) rfl)) (by omega) (by omega) (by rw [hv]; rfl) (by decide) (zl_c32 hC hj hl hI h12 h13 hR hf next)
        · exact lv_tableIn (pc := 33) (off := 1122) (tgt := 1155) hx hb (zd_law0 (33, .tableswitch 1339 0 41 #[183, 226, 259, 292, 325, 388, 421, 454, 517, 540, 553, 566, 579, 592, 605, 618, 641, 674, 697, 730, 743, 766, 779, 822, 865, 898, 921, 964, 997, 1020, 1053, 1096, 1109, 1122, 1145, 1178, 1201, 1234, 1257, 1280, 1303, 1326], 183, 0, []) (List.mem_of_getElem? (i := 21) rfl)) (by omega) (by omega) (by rw [hv]; rfl) (by decide) (zl_c33 hC hj hl hI h12 h13 hR hf next)
        · exact lv_tableIn (pc := 33) (off := 1145) (tgt := 1178) hx hb (zd_law0 (33, .tableswitch 1339 0 41 #[183, 226, 259, 292, 325, 388, 421, 454, 517, 540, 553, 566, 579, 592, 605, 618, 641, 674, 697, 730, 743, 766, 779, 822, 865, 898, 921, 964, 997, 1020, 1053, 1096, 1109, 1122, 1145, 1178, 1201, 1234, 1257, 1280, 1303, 1326], 183, 0, []) (List.mem_of_getElem? (i := 21) rfl)) (by omega) (by omega) (by rw [hv]; rfl) (by decide) (zl_c34 hC hj hl hI h12 h13 hR hf next)
        · exact lv_tableIn (pc := 33) (off := 1178) (tgt := 1211) hx hb (zd_law0 (33, .tableswitch 1339 0 41 #[183, 226, 259, 292, 325, 388, 421, 454, 517, 540, 553, 566, 579, 592, 605, 618, 641, 674, 697, 730, 743, 766, 779, 822, 865, 898, 921, 964, 997, 1020, 1053, 1096, 1109, 1122, 1145, 1178, 1201, 1234, 1257, 1280, 1303, 1326], 183, 0, []) (List.mem_of_getElem? (i := 21) rfl)) (by omega) (by omega) (by rw [hv]; rfl) (by decide) (zl_c35 hC hj hl hI h12 h13 hR hf next)
        · exact lv_tableIn (pc := 33) (off := 1201) (tgt := 1234) hx hb (zd_law0 (33, .tableswitch 1339 0 41 #[183, 226, 259, 292, 325, 388, 421, 454, 517, 540, 553, 566, 579, 592, 605, 618, 641, 674, 697, 730, 743, 766, 779, 822, 865, 898, 921, 964, 997, 1020, 1053, 1096, 1109, 1122, 1145, 1178, 1201, 1234, 1257, 1280, 1303, 1326], 183, 0, []) (List.mem_of_getElem? (i := 21) rfl)) (by omega) (by omega) (by rw [hv]; rfl) (by decide) (zl_c36 hC hj hl hI h12 h13 hR hf next)
        · exact lv_tableIn (pc := 33) (off := 1234) (tgt := 1267) hx hb (zd_law0 (33, .tableswitch 1339 0 41 #[183, 226, 259, 292, 325, 388, 421, 454, 517, 540, 553, 566, 579, 592, 605, 618, 641, 674, 697, 730, 743, 766, 779, 822, 865, 898, 921, 964, 997, 1020, 1053, 1096, 1109, 1122, 1145, 1178, 1201, 1234, 1257, 1280, 1303, 1326], 183, 0, []) (List.mem_of_getElem? (i := 21) rfl)) (by omega) (by omega) (by rw [hv]; rfl) (by decide) (zl_c37 hC hj hl hI h12 h13 hR hf next)
        · exact lv_tableIn (pc := 33) (off := 1257) (tgt := 1290) hx hb (zd_law0 (33, .tableswitch 1339 0 41 #[183, 226, 259, 292, 325, 388, 421, 454, 517, 540, 553, 566, 579, 592, 605, 618, 641, 674, 697, 730, 743, 766, 779, 822, 865, 898, 921, 964, 997, 1020, 1053, 1096, 1109, 1122, 1145, 1178, 1201, 1234, 1257, 1280, 1303, 1326], 183, 0, []) (List.mem_of_getElem? (i := 21) rfl)) (by omega) (by omega) (by rw [hv]; rfl) (by decide) (zl_c38 hC hj hl hI h12 h13 hR hf next)
        · exact lv_tableIn (pc := 33) (off := 1280) (tgt := 1313) hx hb (zd_law0 (33, .tableswitch 1339 0 41 #[183, 226, 259, 292, 325, 388, 421, 454, 517, 540, 553, 566, 579, 592, 605, 618, 641, 674, 697, 730, 743, 766, 779, 822, 865, 898, 921, 964, 997, 1020, 1053, 1096, 1109, 1122, 1145, 1178, 1201, 1234, 1257, 1280, 1303, 1326], 183, 0, []) (List.mem_of_getElem? (i := 21) rfl)) (by omega) (by omega) (by rw [hv]; rfl) (by decide) (zl_c39 hC hj hl hI h12 h13 hR hf next)
        · exact lv_tableIn (pc := 33) (off := 1303) (tgt := 1336) hx hb (zd_law0 (33, .tableswitch 1339 0 41 #[183, 226, 259, 292, 325, 388, 421, 454, 517, 540, 553, 566, 579, 592, 605, 618, 641, 674, 697, 730, 743, 766, 779, 822, 865, 898, 921, 964, 997, 1020, 1053, 1096, 1109, 1122, 1145, 1178, 1201, 1234, 1257, 1280, 1303, 1326], 183, 0, []) (List.mem_of_getElem? (i := 21) rfl)) (by omega) (by omega) (by rw [hv]; rfl) (by decide) (zl_c40 hC hj hl hI h12 h13 hR hf next)
        · exact lv_tableIn (pc := 33) (off := 1326) (tgt := 1359) hx hb (zd_law0 (33, .tableswitch 1339 0 41 #[183, 226, 259, 292, 325, 388, 421, 454, 517, 540, 553, 566, 579, 592, 605, 618, 641, 674, 697, 730, 743, 766, 779, 822, 865, 898, 921, 964, 997, 1020, 1053, 1096, 1109, 1122, 1145, 1178, 1201, 1234, 1257, 1280, 1303, 1326], 183, 0, []) (List.mem_of_getElem? (i := 21) rfl)) (by omega) (by omega) (by rw [hv]; rfl) (by decide) (zl_c41 hC hj hl hI h12 h13 hR hf next)
end ZL8F
theorem zl_ctx {p : Program} {l : Launch} {s : State} {m : MethodId} {meth : Method} {c : Code} {w : zk_W} {b L : Nat} {xs : Nat → Int32} (hC : zl_C p s m #[Value.ref b] c w b L xs) (hr : meth.sig.returnType = ret) (hlocks : meth.locks = false) {P0 : Nat → Option Nat} (htx : ∀ t a, w.2.2.2.2.1 t a → P0 a = some t) : zh_E l room_1 s m #[Value.ref b] meth c w zl_E P0 (fun q => P0 q = none) := by
  obtain ⟨hx, hb, hml, hown, hts, hbs, hK0, hZ, hW, hX, hbl, hL⟩ := hC
  intro N' P1 G1 eff ca ps' kp' hpl hext
  refine ⟨⟨hml, rfl, rfl⟩, hts, zt_clsok hW.2.1, hown, hK0, hW.1, by rw [hbs]; exact Nat.le_refl _, fun q hq => ?_, zt_dvok hW.2.1, fun h => absurd h (show ¬ (0 : Nat) = 2 by decide), ⟨Nat.le_refl _, Nat.le_refl _, Nat.le_refl _, Nat.le_refl _⟩, zt_good, fun i K hi => ?_, fun i K k hi hk => ?_, fun q hq => ?_, ⟨hlocks, hr, hpl.symm⟩, fun q h1 _ => ?_, hW.2.2.1, hZ, fun t a h => hext a t (htx t a h)⟩
  · obtain ⟨r, h1, rfl⟩ := List.mem_map.mp hq
    exact zt_lkb_ok hW.2.1 (List.all_eq_true.mp zl_lks r h1) hts
  · match i, hi with
    | 0, hi => cases hi; exact zq_3011 hW
    | 1, hi => cases hi; exact zq_3100 hW
    | i + 2, hi => simp [zl_E] at hi
  · match i, hi, hk with
    | 0, hi, hk => cases hi; cases hk; rfl
    | 1, hi, hk => cases hi; cases hk; rfl
    | i + 2, hi, hk => simp [zl_E] at hi
  · obtain ⟨r, h1, rfl⟩ := List.mem_map.mp hq
    exact zt_lcb_ok (List.all_eq_true.mp zl_lcs r h1) hts
  · show P0 q = none
    cases hq : P0 q with
    | none => rfl
    | some t =>
      have h1 : P1 q = none := h1
      rw [hext q t hq] at h1
      cases h1
theorem zl_mtt {t : Nat} (h : 107 ≤ t) : zl_mt t = t := by
  unfold zl_mt
  rw [if_neg (by omega), if_neg (by omega), if_neg (by omega), if_neg (by omega), if_neg (by omega), if_neg (by omega), if_neg (by omega), if_neg (by omega), if_neg (by omega), if_neg (by omega), if_neg (by omega), if_neg (by omega)]
theorem zl_mk3 (b : Nat) : zk_mk 3 ((b : Int) + 0) = Value.ref b := by
  show (if (b : Int) + 0 < 0 then Value.null else Value.ref ((b : Int) + 0).toNat) = _
  rw [if_neg (by omega), Int.add_zero, Int.toNat_natCast]
/-- an array or an object of no kind, for cells that aren't looked at -/
def zl_F : Nat → va_E := fun _ => .inr (0, [])
set_option maxHeartbeats 4000000 in
theorem zl_start {p : Program} {l : Launch} {e : Env} {s : State} {m : MethodId} {below : List Frame} {meth : Method} {c : Code} {b L : Nat} {xs : Nat → Int32} {D : va_G} {ad : Nat → Nat} (hC : zl_C p s m #[Value.ref b] c (zl_w s D ad) b L xs) (hr : meth.sig.returnType = ret) (hlocks : meth.locks = false) (had : ∀ i, i < 10 → ad i < s.heap.size) (hinj : ∀ i j, i < 10 → j < 10 → ad i = ad j → i = j) {ls : Array Slot} (hl : lv_has ls 4 [(0, .ref b)]) : W p l e room_1 s m #[Value.ref b] below meth c s.heap [] 0 0 (lw_Z below #[Value.ref b] s) (F0 m 0 ls []) := by
  have htx : ∀ t a, (zl_w s D ad).2.2.2.2.1 t a → zl_P ad a = some t := fun t a h => zl_P2 hinj h
  have hE := zl_ctx (l := l) hC hr hlocks htx
  have hG : zk_G (zl_w s D ad) s (zl_P ad, zl_F, [(b : Int)], [], [], (zk_ev zl_E).2.2.1, fun q => zl_P ad q = none) zl_k0 [0, 0, -1, (b : Int)] (zl_P ad) zl_F s.heap [] ls := by
    refine ⟨⟨⟨by decide, by decide, by decide, by decide⟩, ⟨by decide, by decide, by decide, by decide⟩, ⟨by decide, by decide, fun _ => by decide, fun h => absurd h (by decide)⟩, (show (0 : Int) ≤ (b : Int) by omega), trivial⟩, fun q h => absurd h List.not_mem_nil, fun q h => absurd h List.not_mem_nil, trivial, zl_wt had, ⟨[(0, .ref b)], hl, ⟨rfl, ?_⟩, trivial⟩, fun _ _ h => h, fun _ _ _ => zk_same.rf, va_S.rf, fun q hq => ?_, fun q h => absurd h List.not_mem_nil, fun i n h => by simp at h, fun q _ h => ⟨h, rfl⟩⟩
    · refine ⟨(3, 0, 0, 0), (b : Int), rfl, rfl, trivial, ?_⟩
      exact (zl_mk3 b).symm
    · obtain rfl := List.mem_singleton.mp hq
      exact ⟨(b : Int), rfl, rfl⟩
  refine zh_seg (E := zl_E) (ps' := [(b : Int)]) (kp' := [(3, 0, 0, 0)]) (eff := []) hC.1 hC.2.1 hE rfl zl_dCL zl_chk (fun _ _ h => h) hG trivial (fun A hA => Or.inr (fun N' P' F' H' locs' ls' sv' hG' hS' => ?_))
  obtain rfl := List.mem_singleton.mp hA
  obtain ⟨g1, g2, g3, g4, g5, ⟨lv, hlv, hlr⟩, g7, g8, g9, g10, g11, g12, g13⟩ := hG'
  match sv', hS' with
  | [], hS' =>
  obtain ⟨xa, hxa, h95⟩ := zh_r (i := 4) (t := 101) g1 rfl
  obtain ⟨ma, hma, h96⟩ := zh_r (i := 5) (t := 102) g1 rfl
  have h3 : N'[3]? = some (b : Int) := zh_pa (j := 0) g10 (List.mem_singleton.mpr rfl) rfl
  obtain ⟨n0, hn0, hn1, hn2⟩ := zh_i (i := 0) (lo := 0) (hi := 0) g1 rfl
  obtain rfl : n0 = 0 := Int.le_antisymm hn2 hn1
  have hlr : zk_all2 (zk_lr zl_k1.1 N') [(0, (3, 0)), (1, (4, 0)), (2, (5, 0)), (3, (0, 0))] lv := hlr
  obtain ⟨⟨i0, v0⟩, l0, j0, r0⟩ := zk_all2_get hlr (i := 0) rfl
  obtain ⟨⟨i1, v1⟩, l1, j1, r1⟩ := zk_all2_get hlr (i := 1) rfl
  obtain ⟨⟨i2, v2⟩, l2, j2, r2⟩ := zk_all2_get hlr (i := 2) rfl
  obtain ⟨⟨i3, v3⟩, l3, j3, r3⟩ := zk_all2_get hlr (i := 3) rfl
  have j0 : 0 = i0 := j0
  have j1 : 1 = i1 := j1
  have j2 : 2 = i2 := j2
  have j3 : 3 = i3 := j3
  subst j0
  subst j1
  subst j2
  subst j3
  have e1 : v1 = .ref xa := zh_vr (x := 4) (t := 101) r1 rfl hxa
  have e2 : v2 = .ref ma := zh_vr (x := 5) (t := 102) r2 rfl hma
  have e3 : v3 = .int (nI (6 * 0)) := (zh_vi (x := 0) (o := 0) (t := 0) (lo := 0) (hi := 0) r3 rfl hn0).1.trans rfl
  have e0 : v0 = .ref b := by
    obtain ⟨f, n, y1, y2, -, y4⟩ := r0
    have y1 : some ((3, 0, 0, 0) : zk_F) = some f := y1
    cases y1
    cases h3.symm.trans y2
    exact y4.trans (zl_mk3 b)
  subst e0
  subst e1
  subst e2
  subst e3
  have hlv : lv_has ls' 4 [(0, .ref b), (1, .ref xa), (2, .ref ma), (3, .int (nI (6 * 0)))] := ⟨hlv.1, hlv.2.1, List.forall_mem_cons.mpr ⟨hlv.2.2 _ (List.mem_of_getElem? l0), List.forall_mem_cons.mpr ⟨hlv.2.2 _ (List.mem_of_getElem? l1), List.forall_mem_cons.mpr ⟨hlv.2.2 _ (List.mem_of_getElem? l2), List.forall_mem_cons.mpr ⟨hlv.2.2 _ (List.mem_of_getElem? l3), fun q h => absurd h List.not_mem_nil⟩⟩⟩⟩⟩
  have hwW : (zl_w s D ad).1 = zt_types := rfl
  have h12 : zl_Pm P' xa = some 12 := zl_Pme h95
  have h13 : zl_Pm P' ma = some 13 := zl_Pme h96
  obtain ⟨tn, htn, qtn⟩ := zp_this (zp_rdf (xs := []) (zp_wt.of g5) hwW h95 (show zp_fd 101 0 = some (11, 2, 98, 0, 0) from rfl) (show (2 : Nat) ≤ 2 by decide)).1
  obtain ⟨rd, hrd, qrd⟩ := zp_this (zp_rdf (xs := []) (zp_wt.of g5) hwW qtn (show zp_fd 98 0 = some (9, 2, 106, 0, 0) from rfl) (show (2 : Nat) ≤ 2 by decide)).1
  obtain ⟨im, him, qim⟩ := zp_this (zp_rdf (xs := []) (zp_wt.of g5) hwW h95 (show zp_fd 101 1 = some (11, 2, 96, 0, 0) from rfl) (show (2 : Nat) ≤ 2 by decide)).1
  obtain ⟨rw_, hrw_, qrw_⟩ := zp_this (zp_rdf (xs := []) (zp_wt.of g5) hwW h96 (show zp_fd 102 3 = some (12, 2, 100, 0, 0) from rfl) (show (2 : Nat) ≤ 2 by decide)).1
  obtain ⟨ri, hri, qri⟩ := zp_this (zp_rdf (xs := []) (zp_wt.of g5) hwW h96 (show zp_fd 102 4 = some (12, 2, 60, 0, 0) from rfl) (show (2 : Nat) ≤ 2 by decide)).1
  obtain ⟨kp, hkp, qkp⟩ := zp_this (zp_rdf (xs := []) (zp_wt.of g5) hwW h96 (show zp_fd 102 5 = some (12, 2, 97, 0, 0) from rfl) (show (2 : Nat) ≤ 2 by decide)).1
  have r0 := zl_row0 hwW g5 qrw_
  have nl := zI_nul3 hwW g5 qim
  have d0 : ∀ j, j < 64 → zp_n F' rd (2000 + j) = 0 := fun j hj => by
    have q := zp_int (zp_ia_rd (zp_wt.of (xs := []) g5) hwW (Or.inl rfl) (show zp_ia 1 106 = some (64, 0, 0, 0, 0) from rfl) qrd hj)
    exact Int.le_antisymm q.2 q.1
  have kz : ∀ k, k < 2 → zp_n F' kp (2000 + k) = 0 := fun k hk => by
    have q := zp_int (zp_ia_rd (zp_wt.of (xs := []) g5) hwW (Or.inr rfl) (show zp_ia 4 97 = some (2, 0, 0, 0, 0) from rfl) qkp hk)
    exact Int.le_antisymm q.2 q.1
  have hR : zl_R xa ma (zl_Pm P') (zp_n F') := ⟨fun b t h => zl_Pmm h, tn, rd, im, rw_, ri, kp, ⟨⟨htn, zl_Pme qtn⟩, ⟨hrd, zl_Pme qrd⟩, ⟨him, zl_Pme qim⟩, ⟨hrw_, zl_Pme qrw_⟩, ⟨hri, zl_Pme qri⟩, ⟨hkp, zl_Pme qkp⟩⟩, ⟨fun j hj => (d0 j hj).trans (r0 j hj).symm, zg_rsc (R := fun _ => 0) (fun j hj => d0 j hj) ⟨fun _ _ => ⟨Int.le_refl (0 : Int), (show (0 : Int) ≤ 99 by decide)⟩, fun _ _ _ _ => rfl, fun _ _ => rfl⟩⟩, fun q hq => ⟨fun h => absurd h (Int.not_le.mpr (nl q hq)), fun h => absurd (kz q hq) h⟩, fun q z hq hz => absurd (nl q hq) (by rw [hz]; omega), fun z0 z1 r hz _ _ _ => absurd (nl 0 (by decide)) (by rw [hz]; omega)⟩
  exact zl_loop hC hr hlocks 514 0 (zl_Pm P') F' H' locs' ls' (by decide) (by decide) ⟨zl_retype hwW g5, g9, fun t a h => (zl_Pme (g7 a t (htx t a h))).trans (congrArg some (zl_mtt (Nat.le_trans (by decide) h.1)))⟩ h12 h13 hR hlv
