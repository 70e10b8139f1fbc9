/-! part 8ax: back, with what it copies -/
def zK_bk5 : zk_K := (zt_mn 178, prog_1_method_48_code, 3, (Option.some Jvm.ClassFile.FieldType.int), 1, 11, [(2, 12, 0, 0), (0, 0, (-2147483648), 2147483647)], [(some (0, 0, (-2), 0), [])], [(12, 18, 0), (57, 1002, 0), (42, 1001, 0), (10, 1, 0), (43, 1001, 0), (10, 3, 0), (44, 1001, 0), (45, 1001, 0), (46, 1001, 0), (47, 1001, 0), (48, 1001, 0), (10, 9, 0), (49, 1001, 0), (50, 1001, 0), (51, 1001, 0), (52, 1001, 0), (10, 14, 0), (10, 15, 0), (10, 16, 0), (10, 17, 0), (17, 1001, 0), (18, 1001, 0), (19, 1001, 0), (2, 3, 0), (2, 4, 0), (2, 5, 0), (2, 6, 0), (11, 3, 0)], (3, 103, 0, 0))
def zE_38 : List (Nat × Nat × Nat) := [(42, 1001, 0), (10, 1, 0), (43, 1001, 0), (10, 3, 0), (44, 1001, 0), (45, 1001, 0), (46, 1001, 0), (47, 1001, 0), (48, 1001, 0), (10, 9, 0), (49, 1001, 0), (50, 1001, 0), (51, 1001, 0), (52, 1001, 0), (10, 14, 0), (10, 15, 0), (10, 16, 0), (10, 17, 0), (17, 1001, 0), (18, 1001, 0), (19, 1001, 0), (2, 3, 0), (2, 4, 0), (2, 5, 0), (2, 6, 0)]
def zE_53 : List (Nat × Nat × Nat) := [(12, 18, 0), (11, 3, 0)]
def zM_38 : zk_An := (38, ([(0, 0, 0, 0), (1, 0, 0, 0), (2, 0, (-1), (-1)), (2, 12, 0, 0), (2, 10, 0, 0), (2, 93, 0, 0)], [], [(3, 0, (4, 0))], [], [(0, (3, 0))], [(0, 3), (2, 5)], []), [(5, 0), (4, 0)], 0, 0, ((-1), []))
def zM_32 : zk_An := (32, ([(0, 0, 0, 0), (1, 0, 0, 0), (2, 0, (-1), (-1)), (2, 12, 0, 0), (0, 0, (-2), (-2))], [], [], [], [], [(0, 3)], []), [(4, 0)], 0, 0, ((-1), []))
def zM_53 : zk_An := (53, ([(0, 0, 0, 0), (1, 0, 0, 0), (2, 0, (-1), (-1)), (2, 12, 0, 0), (0, 0, 0, 0)], [], [], [], [], [(0, 3)], []), [(4, 0)], 0, 0, ((-1), []))
def zI_o38 : List zk_O := (zk_s7 zt_types zt_dv [zK_3204] [177] [(1, 107, 15), (0, 111, 16), (0, 434, 177), (0, 124, 19), (0, 118, 17)] zE_38 (zk_Kr zK_bk5) 0 (.invokevirtual 434) 3 38 zM_38.2.1 zM_38.2.2.1 0 0).getD []
theorem zI_o38e : zk_s7 zt_types zt_dv [zK_3204] [177] [(1, 107, 15), (0, 111, 16), (0, 434, 177), (0, 124, 19), (0, 118, 17)] zE_38 (zk_Kr zK_bk5) 0 (.invokevirtual 434) 3 38 zM_38.2.1 zM_38.2.2.1 0 0 = some zI_o38 := by
  have h : (zk_s7 zt_types zt_dv [zK_3204] [177] [(1, 107, 15), (0, 111, 16), (0, 434, 177), (0, 124, 19), (0, 118, 17)] zE_38 (zk_Kr zK_bk5) 0 (.invokevirtual 434) 3 38 zM_38.2.1 zM_38.2.2.1 0 0).isSome = true := by decide +kernel
  unfold zI_o38
  revert h
  cases zk_s7 zt_types zt_dv [zK_3204] [177] [(1, 107, 15), (0, 111, 16), (0, 434, 177), (0, 124, 19), (0, 118, 17)] zE_38 (zk_Kr zK_bk5) 0 (.invokevirtual 434) 3 38 zM_38.2.1 zM_38.2.2.1 0 0 with
  | none => intro h; cases h
  | some x => intro _; rfl
/-- what back answers, what it copies -/
def zB_bk7 : zk_B := fun P G ps _ G' rn => ∀ im tn rd : Nat, zp_n G (zp_0 ps) 1 = (im : Int) → P im = some 55 → zp_n G (zp_0 ps) 0 = (tn : Int) → P tn = some 10 → zp_n G tn 0 = (rd : Int) → P rd = some 42 → (¬ (0 ≤ ps.getD 1 0 ∧ ps.getD 1 0 ≤ 1) → rn = -1 ∧ ∀ k, zp_n G' rd k = zp_n G rd k) ∧ (∀ q : Nat, q < 2 → ps.getD 1 0 = (q : Int) → (zp_n G im (2000 + q) < 0 → rn = -2 ∧ ∀ k, zp_n G' rd k = zp_n G rd k) ∧ (∀ z rz : Nat, zp_n G im (2000 + q) = (z : Int) → zp_n G z 0 = (rz : Int) → P z = some 93 ∧ rn = 0 ∧ ∀ j, j < 64 → zp_n G' rd (2000 + j) = zp_n G rz (2000 + j)))
theorem zX_bk7 {l : Launch} {w : zk_W} (hW : zh_W w) : zk_metX l w zt_dv zt_TB zK_bk5 zk_tA zB_bk7 ∧ zk_cok w zt_TB zK_bk5 := by
  have hw := hW.1
  refine zh_methH hW (lk := [(2, 16, 11, 1, 18), (2, 10, 11, 0, 18), (2, 23, 11, 2, 18)]) (KS := [zK_iw3, zK_13, zK_3204, zK_16, zK_14]) (km := [15, 16, 177, 19, 17]) (lc := [(1, 107, 15), (0, 111, 16), (0, 434, 177), (0, 124, 19), (0, 118, 17)]) (pl := 1328) (by decide) (by decide +kernel) (by decide +kernel) (by
    intro K h
    rcases List.mem_cons.mp h with rfl | h
    · exact zq_iw3 hW
    rcases List.mem_cons.mp h with rfl | h
    · exact zq_13 hW
    rcases List.mem_cons.mp h with rfl | h
    · exact zq_3204 hW
    rcases List.mem_cons.mp h with rfl | h
    · exact zq_16 hW
    rw [List.mem_singleton.mp h]
    exact zq_14 hW) (fun p e R s m args below meth c Q P0 G0 ps X hx hb hA hps hE hQ H locs ls hG => ?_)
  have hlen := (zk_all2_len hps).symm
  have hCL := zq_note_ok zd_X11_back [(11, 1, []), (29, 1, []), (38, 2, []), (45, 3, []), (50, 4, [])]
  have hps0 := hps
  obtain ⟨p0, p1, rfl, k0, k1⟩ := zp_ps2 hps0
  obtain ⟨a, rfl, hp⟩ := zp_this k0
  have h0 : zp_0 [(a : Int), p1] = a := zp_00 rfl
  refine zh_seg (st := []) (eff := zE_1) (AL := []) (AN := [zM_14a, zM_14b, zM_20]) (fuel := 174) hx hb hE hlen hCL (by decide +kernel) (fun _ _ h => h) (zh_reb (eff' := zE_1) hG hG.2.2.2.2.2.2.2.2.2.1) trivial (fun A hA => Or.inr (fun N' P' F' H' locs' ls' sv' hG' hS' => ?_))
  have hef : zk_ef zE_1 [(a : Int), p1] P0 G0 F' := hG'.2.2.2.2.2.2.2.1
  have hext : ∀ a t, P0 a = some t → P' a = some t := hG'.2.2.2.2.2.2.1
  have hfr := zp_ef_fr hef
  have hefK : zk_ef (zk_Ke zK_bk5) [(a : Int), p1] P0 G0 F' := zI_efm hef (by decide +kernel)
  simp only [List.mem_cons, List.not_mem_nil, or_false] at hA
  rcases hA with rfl | rfl | rfl
  · have hk4 : N'[4]? = some p1 := zh_pa (j := 1) hG'.2.2.2.2.2.2.2.2.2.1 (List.mem_cons_of_mem _ List.mem_cons_self) rfl
    obtain ⟨z, hz0, z0, z1⟩ := zh_i (i := 0) hG'.1 rfl
    obtain rfl : z = 0 := Int.le_antisymm z1 z0
    have hd : p1 ≤ 0 + -1 := zh_d (x := 4) (y := 0) hG'.2.1 (List.mem_singleton.mpr rfl) hk4 hz0
    refine zI_ret hx hb hE hQ hps (by decide) rfl hG' (fun _ _ h => h) hefK (r := 5) hS' rfl (List.mem_singleton.mpr rfl) (by decide) (by decide) (by decide +kernel) (by decide) (by decide) (fun n n0 n1 => ?_)
    intro im tn rd _ h55 _ q10 _ q42
    refine ⟨fun _ => ⟨by omega, fun k => zp_nc hfr q42 rfl _⟩, fun q hq e => ?_⟩
    have e : p1 = (q : Int) := e
    exfalso
    omega
  · have hk4 : N'[4]? = some p1 := zh_pa (j := 1) hG'.2.2.2.2.2.2.2.2.2.1 (List.mem_cons_of_mem _ List.mem_cons_self) rfl
    obtain ⟨z, hz0, z0, z1⟩ := zh_i (i := 0) hG'.1 rfl
    obtain rfl : z = 0 := Int.le_antisymm z1 z0
    have hd : 0 ≤ p1 + -2 := zh_d (x := 0) (y := 4) hG'.2.1 (List.mem_singleton.mpr rfl) hz0 hk4
    refine zI_ret hx hb hE hQ hps (by decide) rfl hG' (fun _ _ h => h) hefK (r := 5) hS' rfl (List.mem_singleton.mpr rfl) (by decide) (by decide) (by decide +kernel) (by decide) (by decide) (fun n n0 n1 => ?_)
    intro im tn rd _ h55 _ q10 _ q42
    refine ⟨fun _ => ⟨by omega, fun k => zp_nc hfr q42 rfl _⟩, fun q hq e => ?_⟩
    have e : p1 = (q : Int) := e
    exfalso
    omega
  · obtain ⟨k, hk4, kl, kh⟩ := zh_i (i := 4) hG'.1 rfl
    have hk4' : N'[4]? = some p1 := zh_pa (j := 1) hG'.2.2.2.2.2.2.2.2.2.1 (List.mem_cons_of_mem _ List.mem_cons_self) rfl
    obtain rfl : k = p1 := Option.some.inj (hk4.symm.trans hk4')
    obtain ⟨q, rfl⟩ : ∃ q : Nat, k = (q : Int) := zp_nat kl
    have hq2 : q < 2 := by omega
    have h3 : N'[3]? = some (a : Int) := zh_pa (j := 0) hG'.2.2.2.2.2.2.2.2.2.1 List.mem_cons_self rfl
    obtain ⟨im, him, q55⟩ := zh_r (i := 5) (t := 55) hG'.1 rfl
    obtain ⟨v1, hv1, sv1⟩ := zh_rdf hG'.2.2.1 (x := 3) (k := 1) List.mem_cons_self h3
    have ev1 := zh_vr sv1 rfl him
    have eim : zp_n G0 a 1 = (im : Int) := by
      rw [← zp_nf hfr hp rfl, zI_num hv1, ev1]
      rfl
    obtain ⟨cA, f, o1, o4, o4', o5, o6⟩ := zI_arr hw hG'.2.2.2.2.1 q55
    obtain ⟨wa, wb, rfl, s1, s2⟩ := zp_ps2 (a1 := ((4, 0) : zk_S)) (a2 := ((5, 0) : zk_S)) hS'
    obtain ⟨ek, rk⟩ := zh_vi s1 rfl hk4
    have em := zh_vr s2 rfl him
    rw [Int.add_zero] at ek rk
    subst ek
    subst em
    obtain ⟨i1, i2⟩ := zp_ix (n := 2) rfl hq2 rk
    refine zw_aald (pc := 20) hx hb o6 o4 i1 (by decide +kernel) ?_
    rw [i2, (o5 q hq2).2]
    obtain ⟨z, ez⟩ : ∃ z, zp_n F' im (2000 + q) = z := ⟨_, rfl⟩
    have z1 := (o5 q hq2).1
    rw [ez] at z1 ⊢
    have him0 : ∀ im2 : Nat, zp_n G0 (zp_0 [(a : Int), (q : Int)]) 1 = (im2 : Int) → im2 = im := fun im2 h => by rw [h0, eim] at h; omega
    have hG1 := zh_un hG'
    have hl6 : N'.length = 6 := (zk_all2_len hG'.1).symm
    have hlast : ∀ y : Int, (N' ++ [y])[6]? = some y := fun y => by rw [← hl6]; exact zk_get_last
    by_cases hz : 0 ≤ z
    · obtain ⟨zn, rfl⟩ := zp_nat hz
      have hpa3 : zk_pa (N' ++ [(zn : Int)]) [(a : Int), (q : Int), (zn : Int)] [(0, 3), (1, 4), (2, 6)] := zI_pa3 (zk_get_snoc h3) (zk_get_snoc hk4) (hlast _)
      refine zh_seg (eff := []) (AL := []) (AN := [zM_38]) (fuel := 174) (kp' := ([(2, 12, 0, 0), (0, 0, 0, 1), (2, 93, 0, 0)] : List zk_F)) hx hb hE rfl hCL (by decide +kernel) hext (zh_reb (eff' := []) (hG1.push (f := (2, 93, 0, 0)) (n := (zn : Int)) (show zk_ok P' ((2, 93, 0, 0) : zk_F) (zn : Int) from ⟨hz, z1.2.1, fun h => absurd h (by decide), z1.2.2.2⟩)) hpa3) (zh_one (zk_sv_last hG1.1 (show zk_ok P' ((2, 93, 0, 0) : zk_F) (zn : Int) from ⟨hz, z1.2.1, fun h => absurd h (by decide), z1.2.2.2⟩))) (fun A hA => Or.inr (fun N2 P2 F2 H2 locs2 ls2 sv2 hG2 hS2 => ?_))
      obtain rfl := List.mem_singleton.mp hA
      have hef2 : zk_ef [] [(a : Int), (q : Int), (zn : Int)] P' F' F2 := hG2.2.2.2.2.2.2.2.1
      have hext2 : ∀ a t, P' a = some t → P2 a = some t := hG2.2.2.2.2.2.2.1
      have hfr2 := zp_ef_fr hef2
      have hefK2 : zk_ef (zk_Ke zK_bk5) [(a : Int), (q : Int)] P0 G0 F2 := zh_ef hefK hef2 hext (by decide +kernel) (fun e h => absurd h List.not_mem_nil)
      have h23 : N2[3]? = some (a : Int) := zh_pa (j := 0) hG2.2.2.2.2.2.2.2.2.2.1 List.mem_cons_self rfl
      have h25 : N2[5]? = some (zn : Int) := zh_pa (j := 2) hG2.2.2.2.2.2.2.2.2.2.1 (List.mem_cons_of_mem _ List.mem_cons_self) rfl
      obtain ⟨z2, hz2, qz⟩ := zh_r (i := 5) (t := 93) hG2.1 rfl
      obtain rfl : z2 = zn := by rw [h25] at hz2; have := Option.some.inj hz2; omega
      obtain ⟨tn, htn, q10⟩ := zh_r (i := 4) (t := 10) hG2.1 rfl
      obtain ⟨v0, hv0, sv0⟩ := zh_rdf hG2.2.2.1 (x := 3) (k := 0) List.mem_cons_self h23
      have ev0 := zh_vr sv0 rfl htn
      have etn : zp_n F2 a 0 = (tn : Int) := by
        rw [zI_num hv0, ev0]
        rfl
      have hext02 : ∀ a t, P0 a = some t → P2 a = some t := fun x y h => hext2 _ _ (hext _ _ h)
      refine zh_call (kp' := ([(2, 12, 0, 0), (0, 0, 0, 1), (2, 93, 0, 0)] : List zk_F)) hx hb hE (eff := zE_38) rfl (zX_cr3204 hW) (mi := 177) rfl (i := .invokevirtual 434) (len := 3) (pc := 38) zI_o38e (by decide +kernel) hext02 (zh_reb hG2 hG2.2.2.2.2.2.2.2.2.2.1) hS2 (fun _ _ => trivial) (fun y hy N3 P3 F3 H3 locs3 ls3 sv3 ps3 rn3 hh3 hB3 hN3 hG3 hS3 => ?_)
      have hp3 : ps3 = [(tn : Int), (z2 : Int)] := by
        obtain ⟨y1, y2, rfl, ⟨k1, g1, g2⟩, k2, g3, g4⟩ := zp_ps2 (a1 := ((4, 0) : zk_S)) (a2 := ((5, 0) : zk_S)) hh3
        cases htn.symm.trans g1
        cases h25.symm.trans g3
        rw [g2, g4]
        simp
      subst hp3
      obtain ⟨r1, hr1, qr1⟩ := zp_this (zp_rdf (zp_wt.of (xs := []) hG2.2.2.2.2.1) hw q10 (show zp_fd 10 0 = some (9, 2, 42, 0, 0) from rfl) (Nat.le_refl 2)).1
      obtain ⟨r2, hr2, qr2⟩ := zp_this (zp_rdf (zp_wt.of (xs := []) hG2.2.2.2.2.1) hw qz (show zp_fd 93 0 = some (9, 2, 103, 0, 0) from rfl) (Nat.le_refl 2)).1
      have b3 : (∀ j, j < 64 → zp_n F3 r1 (2000 + j) = zp_n F2 r2 (2000 + j)) ∧ ∀ b, P2 b = some 42 → b ≠ r1 → ∀ k, zp_n F3 b k = zp_n F2 b k := hB3 r1 r2 hr1 qr1 hr2 qr2
      have hef3 : zk_ef zE_38 [(a : Int), (q : Int), (z2 : Int)] P2 F2 F3 := hG3.2.2.2.2.2.2.2.1
      have hext3 : ∀ a t, P2 a = some t → P3 a = some t := hG3.2.2.2.2.2.2.1
      have hefK3 : zk_ef (zk_Ke zK_bk5) [(a : Int), (q : Int)] P0 G0 F3 := zh_ef hefK2 hef3 hext02 (by decide +kernel) (by decide +kernel)
      have hext03 : ∀ a t, P0 a = some t → P3 a = some t := fun x y h => hext3 _ _ (hext02 _ _ h)
      have hall : zI_o38.all (fun o => zk_go (zh_Es (zt_types, [(2, 16, 11, 1, 18), (2, 10, 11, 0, 18), (2, 23, 11, 2, 18)], zt_dv, [zK_iw3, zK_13, zK_3204, zK_16, zK_14], [15, 16, 177, 19, 17], [(1, 107, 15), (0, 111, 16), (0, 434, 177), (0, 124, 19), (0, 118, 17)], zK_bk5) ([(2, 12, 0, 0), (0, 0, 0, 1), (2, 93, 0, 0)] : List zk_F) zE_53) (zc_X11_back.map (zq_note [(11, 1, []), (29, 1, []), (38, 2, []), (45, 3, []), (50, 4, [])])) [zM_53] none 174 o.1 (o.2.1.1, o.2.1.2.1, o.2.1.2.2.1, o.2.1.2.2.2.1, o.2.1.2.2.2.2.1, o.2.1.2.2.2.2.2.1, []) o.2.2.1 o.2.2.2.1 o.2.2.2.2) = true := by decide +kernel
      have hgo := List.all_eq_true.mp hall y hy
      refine zh_seg (eff := zE_53) (AL := []) (AN := [zM_53]) (fuel := 174) (kp' := ([(2, 12, 0, 0), (0, 0, 0, 1), (2, 93, 0, 0)] : List zk_F)) hx hb hE rfl hCL (by rw [Bool.and_eq_true]; exact ⟨hgo, rfl⟩) hext03 (zh_reb hG3 hG3.2.2.2.2.2.2.2.2.2.1) hS3 (fun A hA => Or.inr (fun N4 P4 F4 H4 locs4 ls4 sv4 hG4 hS4 => ?_))
      obtain rfl := List.mem_singleton.mp hA
      have hef4 : zk_ef zE_53 [(a : Int), (q : Int), (z2 : Int)] P3 F3 F4 := hG4.2.2.2.2.2.2.2.1
      have hfr4 := zp_ef_fr hef4
      have hefK4 : zk_ef (zk_Ke zK_bk5) [(a : Int), (q : Int)] P0 G0 F4 := zh_ef hefK3 hef4 hext03 (by decide +kernel) (by decide +kernel)
      refine zI_ret hx hb hE hQ hps (by decide) rfl hG4 hext03 hefK4 (r := 4) hS4 rfl (List.mem_singleton.mpr rfl) (by decide) (by decide) (by decide +kernel) (by decide) (by decide) (fun n n0 n1 => ?_)
      intro im2 tn2 rd2 h2 h55 h10 q10' h11 q42
      obtain rfl := him0 im2 h2
      have h10 : zp_n G0 a 0 = (tn2 : Int) := by rw [h0] at h10; exact h10
      have g0 : zp_n F2 a 0 = zp_n G0 a 0 := (zp_nc hfr2 (hext _ _ hp) rfl _).trans (zp_nf hfr hp rfl)
      obtain rfl : tn = tn2 := by omega
      have e1 : zp_n F' im2 (2000 + q) = zp_n G0 im2 (2000 + q) := zp_nc hfr h55 rfl _
      refine ⟨fun h => absurd (show 0 ≤ (q : Int) ∧ (q : Int) ≤ 1 from ⟨by omega, by omega⟩) h, fun q2 hq2' e => ?_⟩
      have e : (q : Int) = (q2 : Int) := e
      obtain rfl : q = q2 := Int.ofNat.inj e
      refine ⟨fun h => ?_, fun z rz hz3 hz4 => ?_⟩
      · exfalso
        rw [← e1, ez] at h
        omega
      · obtain rfl : z = z2 := by rw [← e1, ez] at hz3; omega
        have hz0 : P0 z = some 93 := by
          have hT := (zI_arr hw hG.2.2.2.2.1 h55)
          obtain ⟨cC, f3, x1, x2, x3, x4, x5⟩ := hT
          have x6 := (x4 q hq2).1
          rw [hz3] at x6
          exact x6.2.2.2 (by omega)
        have gt : zp_n F2 tn 0 = zp_n G0 tn 0 := (zp_nc hfr2 (hext _ _ q10') rfl _).trans (zp_nc hfr q10' rfl _)
        have gz : zp_n F2 z 0 = zp_n G0 z 0 := (zp_nc hfr2 (hext _ _ hz0) rfl _).trans (zp_nc hfr hz0 rfl _)
        obtain rfl : r1 = rd2 := by omega
        obtain rfl : r2 = rz := by omega
        have hr20 : P0 r2 = some 103 := by
          have h9 := zp_this (zp_rdf (zp_wt.of (xs := []) hG.2.2.2.2.1) hw hz0 (show zp_fd 93 0 = some (9, 2, 103, 0, 0) from rfl) (Nat.le_refl 2)).1
          obtain ⟨r9, e9, q9⟩ := h9
          obtain rfl : r9 = r2 := by omega
          exact q9
        refine ⟨hz0, by omega, fun j hj => ?_⟩
        have e4 : zp_n F4 r1 (2000 + j) = zp_n F3 r1 (2000 + j) := zp_nc hfr4 (hext3 _ _ qr1) rfl _
        rw [e4, b3.1 j hj]
        exact (zp_nc hfr2 (hext _ _ hr20) rfl _).trans (zp_nc hfr hr20 rfl _)
    · refine zh_seg (eff := zE_1) (AL := []) (AN := [zM_32]) (fuel := 174) hx hb hE hlen hCL (by decide +kernel) hext (zh_reb (eff' := zE_1) (hG1.push (f := (2, 93, (-1), (-1))) (n := z) (show zk_ok P' ((2, 93, (-1), (-1)) : zk_F) z from ⟨z1.1, z1.2.1, fun _ => Int.not_le.mp hz, z1.2.2.2⟩)) (zh_pa2 hG1.2.2.2.2.2.2.2.2.2.1)) (zh_one (zk_sv_last hG1.1 (show zk_ok P' ((2, 93, (-1), (-1)) : zk_F) z from ⟨z1.1, z1.2.1, fun _ => Int.not_le.mp hz, z1.2.2.2⟩))) (fun A hA => Or.inr (fun N2 P2 F2 H2 locs2 ls2 sv2 hG2 hS2 => ?_))
      obtain rfl := List.mem_singleton.mp hA
      have hef2 : zk_ef zE_1 [(a : Int), (q : Int)] P' F' F2 := hG2.2.2.2.2.2.2.2.1
      have hfr2 := zp_ef_fr hef2
      have hefK2 : zk_ef (zk_Ke zK_bk5) [(a : Int), (q : Int)] P0 G0 F2 := zh_ef hefK hef2 hext (by decide +kernel) (by decide +kernel)
      refine zI_ret hx hb hE hQ hps (by decide) rfl hG2 hext hefK2 (r := 4) hS2 rfl (List.mem_singleton.mpr rfl) (by decide) (by decide) (by decide +kernel) (by decide) (by decide) (fun n n0 n1 => ?_)
      intro im2 tn2 rd2 h2 h55 h10 q10 h11 q42
      obtain rfl := him0 im2 h2
      have e1 : zp_n F' im2 (2000 + q) = zp_n G0 im2 (2000 + q) := zp_nc hfr h55 rfl _
      refine ⟨fun h => absurd (show 0 ≤ (q : Int) ∧ (q : Int) ≤ 1 from ⟨by omega, by omega⟩) h, fun q2 hq2' e => ?_⟩
      have e : (q : Int) = (q2 : Int) := e
      obtain rfl : q = q2 := Int.ofNat.inj e
      refine ⟨fun h => ⟨by omega, fun k => (zp_nc hfr2 (hext _ _ q42) rfl _).trans (zp_nc hfr q42 rfl _)⟩, fun z3 rz3 hz3 _ => ?_⟩
      exfalso
      rw [← e1, ez] at hz3
      omega
