/-! part 73: sumOf -/
def zK_so : zk_K := (zt_mn 291, prog_14_method_110_code, 2, (Option.some Jvm.ClassFile.FieldType.int), 1, 12, [(2, 92, 0, 0), (0, 0, 0, 94)], [(some (0, 0, (-2147483648), 2147483647), [])], [(92, 20, 0), (92, 60, 0), (92, 38, 0), (92, 39, 0), (77, 1001, 0)], (3, 72, 0, 0))
def zφ_so : (Nat → Option Nat) → (Nat → Nat → Int) → List Int → Prop := fun _ G ps => G (zp_0 ps) 20 = 0 ∧ G (zp_0 ps) 19 = 0 ∧ zo_pr (zp_0 ps) G (ps.getD 1 0).toNat
def zψ_so : (Nat → Option Nat) → (Nat → Nat → Int) → List Int → (Nat → Option Nat) → (Nat → Nat → Int) → Int → Prop := fun P G ps P' G' rn => G' (zp_0 ps) 20 = 0
theorem zX_so {l : Launch} {w : zk_W} (hW : zh_W w) : zk_metX l w zt_dv zt_TB zK_so (zp_A zφ_so) (zp_B zψ_so) ∧ zk_cok w zt_TB zK_so := by
  refine zp_meth hW (pl := 2025) rfl (by decide +kernel) (fun p e R s m args below meth c Q u hx hb hE hQ hU5 heff hnL hok hφ => ?_)
  have hw := hW.1
  obtain ⟨p0, p1, hps, k0, k1⟩ := zp_ps2 hok
  obtain ⟨a, rfl, hp⟩ := zp_this k0
  have hrm : zk_Kr (zk_ev (zp_E zK_so)) = zk_Kr zK_so := rfl
  rw [hps] at hφ ⊢
  have hi1 := zp_int k1
  have hφ : zp_n u.2.1 a 20 = 0 ∧ zp_n u.2.1 a 19 = 0 ∧ zo_pr a (zp_n u.2.1) p1.toNat := hφ
  obtain ⟨h20, h19, hpr⟩ := hφ
  obtain ⟨at0, rfl⟩ := zp_nat hi1.1
  rw [Int.toNat_natCast] at hpr
  show zp_J p l e R s m args below meth c Q w u [] 0 [(0, 2, (a : Int)), (1, 0, (at0 : Int))] [] u.1 (zp_n u.2.1)
  refine zp_kn (k := 24) (a := a) hw (show zp_fd 92 24 = some (12, 2, 68, 0, 0) from rfl) rfl hp (fun hk24 => ?_)
  obtain ⟨b24, hb24, hq24⟩ := zp_this hk24
  refine zp_kn (k := 25) (a := a) hw (show zp_fd 92 25 = some (12, 2, 69, 0, 0) from rfl) rfl hp (fun hk25 => ?_)
  obtain ⟨b25, hb25, hq25⟩ := zp_this hk25
  refine zp_kn (k := 56) (a := a) hw (show zp_fd 92 56 = some (12, 2, 90, 0, 0) from rfl) rfl hp (fun hk56 => ?_)
  obtain ⟨b56, hb56, hq56⟩ := zp_this hk56
  refine zp_kn (k := 23) (a := a) hw (show zp_fd 92 23 = some (12, 0, 0, 0, 400) from rfl) rfl hp (fun hk23 => ?_)
  have hxb := zp_int hk23
  obtain ⟨r1, r2, r3, r4, r5⟩ := hpr
  have r5 := r5 h19
  obtain ⟨fi, hfi⟩ := zp_nat r1
  obtain ⟨la, hla⟩ := zp_nat r3
  rw [hfi, hla] at r5
  have v0 : zp_n u.2.1 b56 (2000 + at0) = (fi : Int) := (zv_eq hb56 at0).symm.trans hfi
  have v1 : zp_n u.2.1 b56 (2000 + (at0 + 1)) = (la : Int) := (zv_eq hb56 (at0 + 1)).symm.trans hla
  refine zp_load (pc := 0) hx hb (zd_X12_sumOf (0, .aload_n 0, 1, 0, []) (List.mem_of_getElem? (i := 0) rfl)) rfl (j := 0) rfl ?_
  refine zp_getf (n := ((zp_n u.2.1) a 60)) (pc := 1) hx hb hE hw (zd_X12_sumOf (1, .getfield 537, 3, 0, []) (List.mem_of_getElem? (i := 1) rfl)) (j := 78) rfl rfl rfl hp rfl ?_
  refine zp_if (pc := 4) (tgt := 24) hx hb (zd_X12_sumOf (4, .ifCond .ne 20, 3, 0, []) (List.mem_of_getElem? (i := 2) rfl)) rfl (fun (hc21 : ¬ ((zp_n u.2.1) a 60) = 0) => ?_) (fun (hc21 : ¬ (¬ ((zp_n u.2.1) a 60) = 0)) => ?_)
  · refine zp_const (pc := 24) hx hb (zd_X12_sumOf (24, .iconst (-1), 1, 0, []) (List.mem_of_getElem? (i := 14) rfl)) rfl rfl ?_
    refine zp_iret (pc := 25) (n := (-1)) hx hb hE hQ hU5 rfl (by decide) (zd_X12_sumOf (25, .ireturn, 1, 0, []) (List.mem_of_getElem? (i := 15) rfl)) (j := 0) rfl (zp_o0 (by omega) (by omega) (by omega) (by omega)) ?_
    rw [hps]
    exact (show (zp_n u.2.1) a 20 = 0 from h20)
  · refine zp_load (pc := 7) hx hb (zd_X12_sumOf (7, .aload_n 0, 1, 0, []) (List.mem_of_getElem? (i := 3) rfl)) rfl (j := 0) rfl ?_
    refine zp_getf (n := (b56 : Int)) (pc := 8) hx hb hE hw (zd_X12_sumOf (8, .getfield 149, 3, 0, []) (List.mem_of_getElem? (i := 4) rfl)) (j := 74) rfl rfl rfl hp hb56 ?_
    refine zp_load (pc := 11) hx hb (zd_X12_sumOf (11, .iload_n 1, 1, 0, []) (List.mem_of_getElem? (i := 5) rfl)) rfl (j := 1) rfl ?_
    refine zp_iald (j := at0) (v := (fi : Int)) (pc := 12) hx hb hw (zd_X12_sumOf (12, .iaload, 1, 0, []) (List.mem_of_getElem? (i := 6) rfl)) (show zp_ia 1 90 = some (96, 0, 0, (-2147483648), 2147483647) from rfl) hq56 (by omega) (by omega) v0 (fun hk22 => ?_)
    have hk22b := zp_int hk22
    refine zp_load (pc := 13) hx hb (zd_X12_sumOf (13, .aload_n 0, 1, 0, []) (List.mem_of_getElem? (i := 7) rfl)) rfl (j := 0) rfl ?_
    refine zp_getf (n := (b56 : Int)) (pc := 14) hx hb hE hw (zd_X12_sumOf (14, .getfield 149, 3, 0, []) (List.mem_of_getElem? (i := 8) rfl)) (j := 74) rfl rfl rfl hp hb56 ?_
    refine zp_load (pc := 17) hx hb (zd_X12_sumOf (17, .iload_n 1, 1, 0, []) (List.mem_of_getElem? (i := 9) rfl)) rfl (j := 1) rfl ?_
    refine zp_const (pc := 18) hx hb (zd_X12_sumOf (18, .iconst 1, 1, 0, []) (List.mem_of_getElem? (i := 10) rfl)) rfl rfl ?_
    refine zp_add (n := ((at0 : Int) + 1)) (pc := 19) hx hb (zd_X12_sumOf (19, .iadd, 1, 0, []) (List.mem_of_getElem? (i := 11) rfl)) (by omega) (zp_r0 (by omega) (by omega)) ?_
    refine zp_iald (j := (at0 + 1)) (v := (la : Int)) (pc := 20) hx hb hw (zd_X12_sumOf (20, .iaload, 1, 0, []) (List.mem_of_getElem? (i := 12) rfl)) (show zp_ia 1 90 = some (96, 0, 0, (-2147483648), 2147483647) from rfl) hq56 (by omega) (by omega) v1 (fun hk23 => ?_)
    have hk23b := zp_int hk23
    refine zp_icmp (pc := 21) (tgt := 26) hx hb (zd_X12_sumOf (21, .if_icmp .ne 5, 3, 0, []) (List.mem_of_getElem? (i := 13) rfl)) rfl (fun (hc24 : ¬ (fi : Int) = (la : Int)) => ?_) (fun (hc24 : ¬ (¬ (fi : Int) = (la : Int))) => ?_)
    · refine zp_load (pc := 26) hx hb (zd_X12_sumOf (26, .aload_n 0, 1, 0, []) (List.mem_of_getElem? (i := 16) rfl)) rfl (j := 0) rfl ?_
      refine zp_const (pc := 27) hx hb (zd_X12_sumOf (27, .iconst 1, 1, 0, []) (List.mem_of_getElem? (i := 17) rfl)) rfl rfl ?_
      refine zp_putf (pc := 28) hx hb hE hw heff (zd_X12_sumOf (28, .putfield 319, 3, 0, []) (List.mem_of_getElem? (i := 18) rfl)) (j := 38) rfl rfl rfl hp (zp_o0 (by decide) (by decide) (by decide) (by decide)) ?_
      refine zp_load (pc := 31) hx hb (zd_X12_sumOf (31, .aload_n 0, 1, 0, []) (List.mem_of_getElem? (i := 19) rfl)) rfl (j := 0) rfl ?_
      refine zp_load (pc := 32) hx hb (zd_X12_sumOf (32, .aload_n 0, 1, 0, []) (List.mem_of_getElem? (i := 20) rfl)) rfl (j := 0) rfl ?_
      refine zp_getf (n := (b56 : Int)) (pc := 33) hx hb hE hw (zd_X12_sumOf (33, .getfield 149, 3, 0, []) (List.mem_of_getElem? (i := 21) rfl)) (j := 74) rfl rfl rfl hp ((zp_set_ne (Or.inr (by decide))).trans (hb56)) ?_
      refine zp_load (pc := 36) hx hb (zd_X12_sumOf (36, .iload_n 1, 1, 0, []) (List.mem_of_getElem? (i := 22) rfl)) rfl (j := 1) rfl ?_
      refine zp_iald (j := at0) (v := (fi : Int)) (pc := 37) hx hb hw (zd_X12_sumOf (37, .iaload, 1, 0, []) (List.mem_of_getElem? (i := 23) rfl)) (show zp_ia 1 90 = some (96, 0, 0, (-2147483648), 2147483647) from rfl) hq56 (by omega) (by omega) ((zp_set_ne (Or.inl (zp_pne hq56 hp (by decide)))).trans (v0)) (fun hk25 => ?_)
      have hk25b := zp_int hk25
      refine zp_load (pc := 38) hx hb (zd_X12_sumOf (38, .aload_n 0, 1, 0, []) (List.mem_of_getElem? (i := 24) rfl)) rfl (j := 0) rfl ?_
      refine zp_getf (n := (b56 : Int)) (pc := 39) hx hb hE hw (zd_X12_sumOf (39, .getfield 149, 3, 0, []) (List.mem_of_getElem? (i := 25) rfl)) (j := 74) rfl rfl rfl hp ((zp_set_ne (Or.inr (by decide))).trans (hb56)) ?_
      refine zp_load (pc := 42) hx hb (zd_X12_sumOf (42, .iload_n 1, 1, 0, []) (List.mem_of_getElem? (i := 26) rfl)) rfl (j := 1) rfl ?_
      refine zp_const (pc := 43) hx hb (zd_X12_sumOf (43, .iconst 1, 1, 0, []) (List.mem_of_getElem? (i := 27) rfl)) rfl rfl ?_
      refine zp_add (n := ((at0 : Int) + 1)) (pc := 44) hx hb (zd_X12_sumOf (44, .iadd, 1, 0, []) (List.mem_of_getElem? (i := 28) rfl)) (by omega) (zp_r0 (by omega) (by omega)) ?_
      refine zp_iald (j := (at0 + 1)) (v := (la : Int)) (pc := 45) hx hb hw (zd_X12_sumOf (45, .iaload, 1, 0, []) (List.mem_of_getElem? (i := 29) rfl)) (show zp_ia 1 90 = some (96, 0, 0, (-2147483648), 2147483647) from rfl) hq56 (by omega) (by omega) ((zp_set_ne (Or.inl (zp_pne hq56 hp (by decide)))).trans (v1)) (fun hk26 => ?_)
      have hk26b := zp_int hk26
      have g24 : (zp_set (zp_n u.2.1) a 20 1) a 24 = (b24 : Int) := ((zp_set_ne (Or.inr (by decide))).trans (hb24))
      have g25 : (zp_set (zp_n u.2.1) a 20 1) a 25 = (b25 : Int) := ((zp_set_ne (Or.inr (by decide))).trans (hb25))
      have g20 : (zp_set (zp_n u.2.1) a 20 1) a 20 = 1 := zp_set_self
      have gc : (fi : Int) < (la : Int) → zk_cr (zv (zp_set (zp_n u.2.1) a 20 1) a 24) (zv (zp_set (zp_n u.2.1) a 20 1) a 25) fi la := fun z => zh_crc (r5 z) (fun q _ _ => ⟨by rw [zv_eq g24, zv_eq hb24, zp_set_ne (Or.inl (zp_pne hq24 hp (by decide)))], by rw [zv_eq g25, zv_eq hb25, zp_set_ne (Or.inl (zp_pne hq25 hp (by decide)))]⟩)
      refine zp_call (pc := 46) (how := 0) (idx := 405) (mi := 243) (S := []) hx hb hE hw heff hrm (zX_rk hW) rfl (j := 43) rfl rfl (by decide +kernel) (zd_X12_sumOf (46, .invokevirtual 405, 3, 0, []) (List.mem_of_getElem? (i := 30) rfl)) [(a : Int), (fi : Int), (la : Int)] rfl ⟨zp_o2 hp, zp_o0 (by omega) (by omega) (by omega) (by omega), zp_o0 (by omega) (by omega) (by omega) (by omega), trivial⟩ (Nat.le_of_ble_eq_true rfl) (show zo_rk _ (zp_set (zp_n u.2.1) a 20 1) [(a : Int), (fi : Int), (la : Int)] from ⟨g20, gc⟩) (fun al hal rnr Pr Gr hextr hfrr hokr hcsr hpsir => ?_)
      obtain rfl := List.mem_singleton.mp hal
      have hpr := hextr _ _ hp
      have hqr24 := hextr _ _ hq24
      have hqr25 := hextr _ _ hq25
      have hqr56 := hextr _ _ hq56
      refine zp_kn (k := 38) (a := a) (G := Gr) hw (show zp_fd 92 38 = some (12, 0, 0, 0, 1) from rfl) rfl hpr (fun hk38 => ?_)
      refine zp_kn (k := 39) (a := a) (G := Gr) hw (show zp_fd 92 39 = some (12, 1, 0, (-9223372036854775808), 9223372036854775807) from rfl) rfl hpr (fun hk39 => ?_)
      have hx38 := zp_int hk38
      refine zp_load (pc := 49) hx hb (zd_X12_sumOf (49, .aload_n 0, 1, 0, []) (List.mem_of_getElem? (i := 31) rfl)) rfl (j := 0) rfl ?_
      refine zp_const (pc := 50) hx hb (zd_X12_sumOf (50, .iconst 0, 1, 0, []) (List.mem_of_getElem? (i := 32) rfl)) rfl rfl ?_
      refine zp_putf (pc := 51) hx hb hE hw heff (zd_X12_sumOf (51, .putfield 319, 3, 0, []) (List.mem_of_getElem? (i := 33) rfl)) (j := 38) rfl rfl rfl hpr (zp_o0 (by decide) (by decide) (by decide) (by decide)) ?_
      refine zp_load (pc := 54) hx hb (zd_X12_sumOf (54, .aload_n 0, 1, 0, []) (List.mem_of_getElem? (i := 34) rfl)) rfl (j := 0) rfl ?_
      refine zp_load (pc := 55) hx hb (zd_X12_sumOf (55, .aload_n 0, 1, 0, []) (List.mem_of_getElem? (i := 35) rfl)) rfl (j := 0) rfl ?_
      refine zp_getf (n := (Gr a 38)) (pc := 56) hx hb hE hw (zd_X12_sumOf (56, .getfield 388, 3, 0, []) (List.mem_of_getElem? (i := 36) rfl)) (j := 56) rfl rfl rfl hpr ((zp_set_ne (Or.inr (by decide)))) ?_
      refine zp_putf (pc := 59) hx hb hE hw heff (zd_X12_sumOf (59, .putfield 537, 3, 0, []) (List.mem_of_getElem? (i := 37) rfl)) (j := 78) rfl rfl rfl hpr (zp_o0 (by omega) (by omega) (by omega) (by omega)) ?_
      refine zp_load (pc := 62) hx hb (zd_X12_sumOf (62, .aload_n 0, 1, 0, []) (List.mem_of_getElem? (i := 38) rfl)) rfl (j := 0) rfl ?_
      refine zp_getf (n := (Gr a 39)) (pc := 63) hx hb hE hw (zd_X12_sumOf (63, .getfield 402, 3, 0, []) (List.mem_of_getElem? (i := 39) rfl)) (j := 57) rfl rfl rfl hpr ((zp_set_ne (Or.inr (by decide))).trans ((zp_set_ne (Or.inr (by decide))))) ?_
      refine zp_l2i (pc := 66) hx hb (zd_X12_sumOf (66, .l2i, 1, 0, []) (List.mem_of_getElem? (i := 40) rfl)) (fun x27 r_x27 e_x27 => ?_)
      have i_x27 := zp_rg0 r_x27
      refine zp_iret (pc := 67) (n := x27) hx hb hE hQ hU5 rfl (by decide) (zd_X12_sumOf (67, .ireturn, 1, 0, []) (List.mem_of_getElem? (i := 41) rfl)) (j := 0) rfl (zp_o0 (by omega) (by omega) (by omega) (by omega)) ?_
      rw [hps]
      exact (show (zp_set (zp_set Gr a 20 0) a 60 (Gr a 38)) a 20 = 0 from ((zp_set_ne (Or.inr (by decide))).trans (zp_set_self)))
    · refine zp_const (pc := 24) hx hb (zd_X12_sumOf (24, .iconst (-1), 1, 0, []) (List.mem_of_getElem? (i := 14) rfl)) rfl rfl ?_
      refine zp_iret (pc := 25) (n := (-1)) hx hb hE hQ hU5 rfl (by decide) (zd_X12_sumOf (25, .ireturn, 1, 0, []) (List.mem_of_getElem? (i := 15) rfl)) (j := 0) rfl (zp_o0 (by omega) (by omega) (by omega) (by omega)) ?_
      rw [hps]
      exact (show (zp_n u.2.1) a 20 = 0 from h20)
