/-! part 8azd: the reference: person, work, row, sight, forget, dust, feed -/
def zK_mip : zk_K := (zt_mn 193, prog_14_method_19_code, 2, (Option.some Jvm.ClassFile.FieldType.boolean), 1, 12, [(2, 13, 0, 0), (0, 0, (-2147483648), 2147483647)], [(some (0, 0, 0, 1), [])], [], (1, 30, 0, 0))
def zψ_mip : (Nat → Option Nat) → (Nat → Nat → Int) → List Int → (Nat → Option Nat) → (Nat → Nat → Int) → Int → Prop := fun P G ps P' G' rn => P' = P ∧ G' = G ∧ (rn = 1 ↔ 0 ≤ ps.getD 1 0 ∧ ps.getD 1 0 < G (G (zp_0 ps) 3).toNat (2000 + 0))
theorem zX_mip {l : Launch} {w : zk_W} (hW : zh_W w) : zk_metX l w zt_dv zt_TB zK_mip (zp_A zp_tA) (zp_B zψ_mip) ∧ zk_cok w zt_TB zK_mip := by
  refine zp_methX (cn := "WoundTownModel") zp_lkall hW (pl := 1603) rfl (by decide +kernel) (fun p e R s m args below meth c Q u hx hb hE hQ hU5 heff hnL hok hφ => ?_)
  have hw := hW.1
  obtain ⟨p0, p1, hps, k0, k1⟩ := zp_ps2 hok
  obtain ⟨a, rfl, hp⟩ := zp_this k0
  have hrm : zk_Kr (zk_ev (zt_types, zp_lk, zt_dv, [], [], zp_lc, zK_mip)) = zk_Kr zK_mip := rfl
  rw [hps] at hφ ⊢
  have hi1 := zp_int k1
  show zp_J p l e R s m args below meth c Q w u [] 0 [(0, 2, (a : Int)), (1, 0, p1)] [] u.1 (zp_n u.2.1)
  refine zp_kn (k := 3) (a := a) hw (show zp_fd 13 3 = some (12, 2, 59, 0, 0) from rfl) rfl hp (fun hkrw_ => ?_)
  obtain ⟨rw_, hrw_, qrw_⟩ := zp_this hkrw_
  have qrw : u.1 rw_ = some 59 := qrw_
  have hrt : (zp_n u.2.1 a 3).toNat = rw_ := by rw [hrw_, Int.toNat_natCast]
  refine zp_kaT hw qrw zl_T59 rfl zl_kd (fun hkape => ?_)
  have hkpe : zk_ok u.1 (0, 0, 0, 6) (zp_n u.2.1 rw_ (2000 + 0)) := hkape 0 (show 0 < 5580 by decide)
  obtain ⟨pe, hpe⟩ := zp_nat (zp_int hkpe).1
  have hpeb := zp_int hkpe
  rw [hpe] at hpeb
  refine zp_load (pc := 0) hx hb (zd_X12_isPerson (0, .iload_n 1, 1, 0, []) (List.mem_of_getElem? (i := 0) rfl)) rfl (j := 1) rfl ?_
  refine zp_i2l (pc := 1) hx hb (zd_X12_isPerson (1, .i2l, 1, 0, []) (List.mem_of_getElem? (i := 1) rfl)) ?_
  refine zp_const (pc := 2) hx hb (zd_X12_isPerson (2, .lconst 0, 1, 0, []) (List.mem_of_getElem? (i := 2) rfl)) rfl rfl ?_
  refine zp_load (pc := 3) hx hb (zd_X12_isPerson (3, .aload_n 0, 1, 0, []) (List.mem_of_getElem? (i := 3) rfl)) rfl (j := 0) rfl ?_
  refine zp_getf (n := (rw_ : Int)) (pc := 4) hx hb hE hw (zd_X12_isPerson (4, .getfield 13, 3, 0, []) (List.mem_of_getElem? (i := 4) rfl)) (j := 21) rfl rfl rfl hp hrw_ ?_
  refine zp_const (pc := 7) hx hb (zd_X12_isPerson (7, .iconst 0, 1, 0, []) (List.mem_of_getElem? (i := 5) rfl)) rfl rfl ?_
  refine zp_ialdT (j := 0) (v := (pe : Int)) (pc := 8) hx hb hw (zd_X12_isPerson (8, .iaload, 1, 0, []) (List.mem_of_getElem? (i := 6) rfl)) zl_T59 rfl (zl_kd 0) qrw_ (by omega) (show 0 < 5580 by omega) hpe (fun hk21 => ?_)
  have hk21b := zp_int (show zk_ok u.1 (0, 0, 0, 6) (pe : Int) from hk21)
  refine zp_i2l (pc := 9) hx hb (zd_X12_isPerson (9, .i2l, 1, 0, []) (List.mem_of_getElem? (i := 7) rfl)) ?_
  refine zp_const (pc := 10) hx hb (zd_X12_isPerson (10, .lconst 1, 1, 0, []) (List.mem_of_getElem? (i := 8) rfl)) rfl rfl ?_
  refine zp_lsubx (n := ((pe : Int) - 1)) (pc := 11) hx hb (zd_X12_isPerson (11, .lsub, 1, 0, []) (List.mem_of_getElem? (i := 9) rfl)) (by omega) (zp_r1 (by omega) (by omega)) ?_
  refine zp_call (pc := 12) (how := 1) (idx := 181) (mi := 186) (S := []) hx hb hE hw heff hrm (zX_in2 hW) rfl (j := 2) rfl rfl (by decide +kernel) (zd_X12_isPerson (12, .invokestatic 181, 3, 0, []) (List.mem_of_getElem? (i := 10) rfl)) [p1, 0, ((pe : Int) - 1)] rfl ⟨zp_o1 (zp_r1 (by omega) (by omega)), zp_o1 (zp_r1 (by omega) (by omega)), zp_o1 (zp_r1 (by omega) (by omega)), trivial⟩ (Nat.le_of_ble_eq_true rfl) trivial (fun al hal rnw1 Pw1 Gw1 hextw1 hfrw1 hokw1 hcsw1 hpsiw1 => ?_)
  obtain rfl := List.mem_singleton.mp hal
  have hrw1 := zp_int (hokw1 _ rfl).1
  obtain ⟨hPew1, hGew1, htw1⟩ := hpsiw1
  have htw1 : rnw1 = 1 ↔ 0 ≤ p1 ∧ p1 ≤ ((pe : Int) - 1) := htw1
  rw [hPew1, hGew1]
  refine zp_zret (pc := 15) (n := rnw1) hx hb hE hQ hU5 rfl (by decide) (zd_X12_isPerson (15, .ireturn, 1, 0, []) (List.mem_of_getElem? (i := 11) rfl)) (j := 0) rfl (zp_o0 (by omega) (by omega) (by omega) (by omega)) ?_
  rw [hps]
  refine ⟨rfl, rfl, ?_⟩
  show (rnw1 = 1 ↔ 0 ≤ p1 ∧ p1 < zp_n u.2.1 (zp_n u.2.1 a 3).toNat (2000 + 0))
  rw [hrt]
  omega
def zK_miw : zk_K := (zt_mn 200, prog_14_method_20_code, 2, (Option.some Jvm.ClassFile.FieldType.boolean), 1, 12, [(2, 13, 0, 0), (0, 0, (-2147483648), 2147483647)], [(some (0, 0, 0, 1), [])], [], (1, 30, 0, 0))
def zψ_miw : (Nat → Option Nat) → (Nat → Nat → Int) → List Int → (Nat → Option Nat) → (Nat → Nat → Int) → Int → Prop := fun P G ps P' G' rn => P' = P ∧ G' = G ∧ (rn = 1 ↔ 0 ≤ ps.getD 1 0 ∧ ps.getD 1 0 < G (G (zp_0 ps) 3).toNat (2000 + 1))
theorem zX_miw {l : Launch} {w : zk_W} (hW : zh_W w) : zk_metX l w zt_dv zt_TB zK_miw (zp_A zp_tA) (zp_B zψ_miw) ∧ zk_cok w zt_TB zK_miw := by
  refine zp_methX (cn := "WoundTownModel") zp_lkall hW (pl := 1634) rfl (by decide +kernel) (fun p e R s m args below meth c Q u hx hb hE hQ hU5 heff hnL hok hφ => ?_)
  have hw := hW.1
  obtain ⟨p0, p1, hps, k0, k1⟩ := zp_ps2 hok
  obtain ⟨a, rfl, hp⟩ := zp_this k0
  have hrm : zk_Kr (zk_ev (zt_types, zp_lk, zt_dv, [], [], zp_lc, zK_miw)) = zk_Kr zK_miw := rfl
  rw [hps] at hφ ⊢
  have hi1 := zp_int k1
  show zp_J p l e R s m args below meth c Q w u [] 0 [(0, 2, (a : Int)), (1, 0, p1)] [] u.1 (zp_n u.2.1)
  refine zp_kn (k := 3) (a := a) hw (show zp_fd 13 3 = some (12, 2, 59, 0, 0) from rfl) rfl hp (fun hkrw_ => ?_)
  obtain ⟨rw_, hrw_, qrw_⟩ := zp_this hkrw_
  have qrw : u.1 rw_ = some 59 := qrw_
  have hrt : (zp_n u.2.1 a 3).toNat = rw_ := by rw [hrw_, Int.toNat_natCast]
  refine zp_kaT hw qrw zl_T59 rfl zl_kd (fun hkawk => ?_)
  have hkwk : zk_ok u.1 (0, 0, 0, 10) (zp_n u.2.1 rw_ (2000 + 1)) := hkawk 1 (show 1 < 5580 by decide)
  obtain ⟨wk, hwk⟩ := zp_nat (zp_int hkwk).1
  have hwkb := zp_int hkwk
  rw [hwk] at hwkb
  refine zp_load (pc := 0) hx hb (zd_X12_isWork (0, .iload_n 1, 1, 0, []) (List.mem_of_getElem? (i := 0) rfl)) rfl (j := 1) rfl ?_
  refine zp_i2l (pc := 1) hx hb (zd_X12_isWork (1, .i2l, 1, 0, []) (List.mem_of_getElem? (i := 1) rfl)) ?_
  refine zp_const (pc := 2) hx hb (zd_X12_isWork (2, .lconst 0, 1, 0, []) (List.mem_of_getElem? (i := 2) rfl)) rfl rfl ?_
  refine zp_load (pc := 3) hx hb (zd_X12_isWork (3, .aload_n 0, 1, 0, []) (List.mem_of_getElem? (i := 3) rfl)) rfl (j := 0) rfl ?_
  refine zp_getf (n := (rw_ : Int)) (pc := 4) hx hb hE hw (zd_X12_isWork (4, .getfield 13, 3, 0, []) (List.mem_of_getElem? (i := 4) rfl)) (j := 21) rfl rfl rfl hp hrw_ ?_
  refine zp_const (pc := 7) hx hb (zd_X12_isWork (7, .iconst 1, 1, 0, []) (List.mem_of_getElem? (i := 5) rfl)) rfl rfl ?_
  refine zp_ialdT (j := 1) (v := (wk : Int)) (pc := 8) hx hb hw (zd_X12_isWork (8, .iaload, 1, 0, []) (List.mem_of_getElem? (i := 6) rfl)) zl_T59 rfl (zl_kd 1) qrw_ (by omega) (show 1 < 5580 by omega) hwk (fun hk22 => ?_)
  have hk22b := zp_int (show zk_ok u.1 (0, 0, 0, 10) (wk : Int) from hk22)
  refine zp_i2l (pc := 9) hx hb (zd_X12_isWork (9, .i2l, 1, 0, []) (List.mem_of_getElem? (i := 7) rfl)) ?_
  refine zp_const (pc := 10) hx hb (zd_X12_isWork (10, .lconst 1, 1, 0, []) (List.mem_of_getElem? (i := 8) rfl)) rfl rfl ?_
  refine zp_lsubx (n := ((wk : Int) - 1)) (pc := 11) hx hb (zd_X12_isWork (11, .lsub, 1, 0, []) (List.mem_of_getElem? (i := 9) rfl)) (by omega) (zp_r1 (by omega) (by omega)) ?_
  refine zp_call (pc := 12) (how := 1) (idx := 181) (mi := 186) (S := []) hx hb hE hw heff hrm (zX_in2 hW) rfl (j := 2) rfl rfl (by decide +kernel) (zd_X12_isWork (12, .invokestatic 181, 3, 0, []) (List.mem_of_getElem? (i := 10) rfl)) [p1, 0, ((wk : Int) - 1)] rfl ⟨zp_o1 (zp_r1 (by omega) (by omega)), zp_o1 (zp_r1 (by omega) (by omega)), zp_o1 (zp_r1 (by omega) (by omega)), trivial⟩ (Nat.le_of_ble_eq_true rfl) trivial (fun al hal rnw2 Pw2 Gw2 hextw2 hfrw2 hokw2 hcsw2 hpsiw2 => ?_)
  obtain rfl := List.mem_singleton.mp hal
  have hrw2 := zp_int (hokw2 _ rfl).1
  obtain ⟨hPew2, hGew2, htw2⟩ := hpsiw2
  have htw2 : rnw2 = 1 ↔ 0 ≤ p1 ∧ p1 ≤ ((wk : Int) - 1) := htw2
  rw [hPew2, hGew2]
  refine zp_zret (pc := 15) (n := rnw2) hx hb hE hQ hU5 rfl (by decide) (zd_X12_isWork (15, .ireturn, 1, 0, []) (List.mem_of_getElem? (i := 11) rfl)) (j := 0) rfl (zp_o0 (by omega) (by omega) (by omega) (by omega)) ?_
  rw [hps]
  refine ⟨rfl, rfl, ?_⟩
  show (rnw2 = 1 ↔ 0 ≤ p1 ∧ p1 < zp_n u.2.1 (zp_n u.2.1 a 3).toNat (2000 + 1))
  rw [hrt]
  omega
def zK_mpe : zk_K := (zt_mn 191, prog_14_method_23_code, 4, (Option.some Jvm.ClassFile.FieldType.int), 1, 12, [(2, 13, 0, 0), (0, 0, (-2147483648), 2147483647), (0, 0, (-2147483648), 2147483647)], [(some (0, 0, (-5), 5), [])], [(13, 0, 0), (13, 8, 0), (13, 1, 0), (58, 1001, 0), (59, 5844, 0), (59, 3000, 0)], (2, 60, 0, 0))
def zψ_mpe : (Nat → Option Nat) → (Nat → Nat → Int) → List Int → (Nat → Option Nat) → (Nat → Nat → Int) → Int → Prop := fun P G ps P' G' rn => (¬ (0 ≤ ps.getD 1 0 ∧ ps.getD 1 0 ≤ 9 ∧ 0 ≤ ps.getD 2 0 ∧ ps.getD 2 0 ≤ 7) → rn = -1 ∧ G' (G (zp_0 ps) 3).toNat (2000 + 0) = G (G (zp_0 ps) 3).toNat (2000 + 0)) ∧ ((0 ≤ ps.getD 1 0 ∧ ps.getD 1 0 ≤ 9 ∧ 0 ≤ ps.getD 2 0 ∧ ps.getD 2 0 ≤ 7) ∧ 6 ≤ G (G (zp_0 ps) 3).toNat (2000 + 0) → rn = -5 ∧ G' (G (zp_0 ps) 3).toNat (2000 + 0) = G (G (zp_0 ps) 3).toNat (2000 + 0)) ∧ ((0 ≤ ps.getD 1 0 ∧ ps.getD 1 0 ≤ 9 ∧ 0 ≤ ps.getD 2 0 ∧ ps.getD 2 0 ≤ 7) ∧ G (G (zp_0 ps) 3).toNat (2000 + 0) < 6 → rn = G (G (zp_0 ps) 3).toNat (2000 + 0) ∧ G' (G (zp_0 ps) 3).toNat (2000 + 0) = G (G (zp_0 ps) 3).toNat (2000 + 0) + 1)
theorem zX_mpe {l : Launch} {w : zk_W} (hW : zh_W w) : zk_metX l w zt_dv zt_TB zK_mpe (zp_A zp_tA) (zp_B zψ_mpe) ∧ zk_cok w zt_TB zK_mpe := by
  refine zp_methX (cn := "WoundTownModel") zp_lkall hW (pl := 1594) rfl (by decide +kernel) (fun p e R s m args below meth c Q u hx hb hE hQ hU5 heff hnL hok hφ => ?_)
  have hw := hW.1
  obtain ⟨p0, p1, p2, hps, k0, k1, k2⟩ := zp_ps3 hok
  obtain ⟨a, rfl, hp⟩ := zp_this k0
  have hrm : zk_Kr (zk_ev (zt_types, zp_lk, zt_dv, [], [], zp_lc, zK_mpe)) = zk_Kr zK_mpe := rfl
  rw [hps] at hφ ⊢
  have hi1 := zp_int k1
  have hi2 := zp_int k2
  show zp_J p l e R s m args below meth c Q w u [] 0 [(0, 2, (a : Int)), (1, 0, p1), (2, 0, p2)] [] u.1 (zp_n u.2.1)
  refine zp_kn (k := 3) (a := a) hw (show zp_fd 13 3 = some (12, 2, 59, 0, 0) from rfl) rfl hp (fun hkrw_ => ?_)
  obtain ⟨rw_, hrw_, qrw_⟩ := zp_this hkrw_
  have qrw : u.1 rw_ = some 59 := qrw_
  have hrt : (zp_n u.2.1 a 3).toNat = rw_ := by rw [hrw_, Int.toNat_natCast]
  refine zp_kaT hw qrw zl_T59 rfl zl_kd (fun hkape => ?_)
  have hkpe : zk_ok u.1 (0, 0, 0, 6) (zp_n u.2.1 rw_ (2000 + 0)) := hkape 0 (show 0 < 5580 by decide)
  obtain ⟨pe, hpe⟩ := zp_nat (zp_int hkpe).1
  have hpeb := zp_int hkpe
  rw [hpe] at hpeb
  refine zp_load (pc := 0) hx hb (zd_X12_person (0, .aload_n 0, 1, 0, []) (List.mem_of_getElem? (i := 0) rfl)) rfl (j := 0) rfl ?_
  refine zp_const (pc := 1) hx hb (zd_X12_person (1, .iconst 0, 1, 0, []) (List.mem_of_getElem? (i := 1) rfl)) rfl rfl ?_
  refine zp_putf (pc := 2) hx hb hE hw heff (zd_X12_person (2, .putfield 161, 3, 0, []) (List.mem_of_getElem? (i := 2) rfl)) (j := 18) rfl rfl rfl hp (zp_o0 (by decide) (by decide) (by decide) (by decide)) ?_
  refine zp_load (pc := 5) hx hb (zd_X12_person (5, .iload_n 1, 1, 0, []) (List.mem_of_getElem? (i := 3) rfl)) rfl (j := 1) rfl ?_
  refine zp_i2l (pc := 6) hx hb (zd_X12_person (6, .i2l, 1, 0, []) (List.mem_of_getElem? (i := 4) rfl)) ?_
  refine zp_const (pc := 7) hx hb (zd_X12_person (7, .lconst 0, 1, 0, []) (List.mem_of_getElem? (i := 5) rfl)) rfl rfl ?_
  refine zp_ldc2 (pc := 8) hx hb hE (zd_X12_person (8, .ldc2_w 199, 3, 0, []) (List.mem_of_getElem? (i := 6) rfl)) (j := 84) rfl ?_
  refine zp_call (pc := 11) (how := 1) (idx := 181) (mi := 186) (S := []) hx hb hE hw heff hrm (zX_in2 hW) rfl (j := 2) rfl rfl (by decide +kernel) (zd_X12_person (11, .invokestatic 181, 3, 0, []) (List.mem_of_getElem? (i := 7) rfl)) [p1, 0, 9] rfl ⟨zp_o1 (zp_r1 (by omega) (by omega)), zp_o1 (zp_r1 (by omega) (by omega)), zp_o1 (zp_r1 (by omega) (by omega)), trivial⟩ (Nat.le_of_ble_eq_true rfl) trivial (fun al hal rnw3 Pw3 Gw3 hextw3 hfrw3 hokw3 hcsw3 hpsiw3 => ?_)
  obtain rfl := List.mem_singleton.mp hal
  have hrw3 := zp_int (hokw3 _ rfl).1
  obtain ⟨hPew3, hGew3, htw3⟩ := hpsiw3
  have htw3 : rnw3 = 1 ↔ 0 ≤ p1 ∧ p1 ≤ 9 := htw3
  rw [hPew3, hGew3]
  refine zp_if (pc := 14) (tgt := 29) hx hb (zd_X12_person (14, .ifCond .eq 15, 3, 0, []) (List.mem_of_getElem? (i := 8) rfl)) rfl (fun (hc23 : rnw3 = 0) => ?_) (fun (hc23 : ¬ (rnw3 = 0)) => ?_)
  · refine zp_load (pc := 29) hx hb (zd_X12_person (29, .aload_n 0, 1, 0, []) (List.mem_of_getElem? (i := 15) rfl)) rfl (j := 0) rfl ?_
    refine zp_const (pc := 30) hx hb (zd_X12_person (30, .iconst (-1), 1, 0, []) (List.mem_of_getElem? (i := 16) rfl)) rfl rfl ?_
    refine zp_call (pc := 31) (how := 0) (idx := 170) (mi := 183) (S := []) hx hb hE hw heff hrm (zX_te13 hW) rfl (j := 0) rfl rfl (by decide +kernel) (zd_X12_person (31, .invokevirtual 170, 3, 0, []) (List.mem_of_getElem? (i := 17) rfl)) [(a : Int), (-1)] rfl ⟨zp_o2 hp, zp_o0 (by omega) (by omega) (by omega) (by omega), trivial⟩ (Nat.le_of_ble_eq_true rfl) trivial (fun al hal rnr4 Pr4 Gr4 hextr4 hfrr4 hokr4 hcsr4 hpsir4 => ?_)
    obtain rfl := List.mem_singleton.mp hal
    have hrr4 := zp_int (hokr4 _ rfl).1
    have yar4 := hextr4 _ _ hp
    have yrw_r4 := hextr4 _ _ qrw_
    have htr4 : rnr4 = (-1) := hpsir4.2
    have ez0 : Gr4 rw_ (2000 + 0) = (pe : Int) := ((zp_nc hfrr4 qrw_ rfl (2000 + 0)).trans ((zp_set_ne (Or.inl (zp_pne qrw_ hp (by decide)))).trans (hpe)))
    refine zp_iret (pc := 34) (n := rnr4) hx hb hE hQ hU5 rfl (by decide) (zd_X12_person (34, .ireturn, 1, 0, []) (List.mem_of_getElem? (i := 18) rfl)) (j := 0) rfl (zp_o0 (by omega) (by omega) (by omega) (by omega)) ?_
    rw [hps]
    show (¬ (0 ≤ p1 ∧ p1 ≤ 9 ∧ 0 ≤ p2 ∧ p2 ≤ 7) → rnr4 = -1 ∧ Gr4 (zp_n u.2.1 a 3).toNat (2000 + 0) = zp_n u.2.1 (zp_n u.2.1 a 3).toNat (2000 + 0)) ∧ ((0 ≤ p1 ∧ p1 ≤ 9 ∧ 0 ≤ p2 ∧ p2 ≤ 7) ∧ 6 ≤ zp_n u.2.1 (zp_n u.2.1 a 3).toNat (2000 + 0) → rnr4 = -5 ∧ Gr4 (zp_n u.2.1 a 3).toNat (2000 + 0) = zp_n u.2.1 (zp_n u.2.1 a 3).toNat (2000 + 0)) ∧ ((0 ≤ p1 ∧ p1 ≤ 9 ∧ 0 ≤ p2 ∧ p2 ≤ 7) ∧ zp_n u.2.1 (zp_n u.2.1 a 3).toNat (2000 + 0) < 6 → rnr4 = zp_n u.2.1 (zp_n u.2.1 a 3).toNat (2000 + 0) ∧ Gr4 (zp_n u.2.1 a 3).toNat (2000 + 0) = zp_n u.2.1 (zp_n u.2.1 a 3).toNat (2000 + 0) + 1)
    rw [hrt]
    omega
  · refine zp_load (pc := 17) hx hb (zd_X12_person (17, .iload_n 2, 1, 0, []) (List.mem_of_getElem? (i := 9) rfl)) rfl (j := 2) rfl ?_
    refine zp_i2l (pc := 18) hx hb (zd_X12_person (18, .i2l, 1, 0, []) (List.mem_of_getElem? (i := 10) rfl)) ?_
    refine zp_const (pc := 19) hx hb (zd_X12_person (19, .lconst 0, 1, 0, []) (List.mem_of_getElem? (i := 11) rfl)) rfl rfl ?_
    refine zp_ldc2 (pc := 20) hx hb hE (zd_X12_person (20, .ldc2_w 192, 3, 0, []) (List.mem_of_getElem? (i := 12) rfl)) (j := 82) rfl ?_
    refine zp_call (pc := 23) (how := 1) (idx := 181) (mi := 186) (S := []) hx hb hE hw heff hrm (zX_in2 hW) rfl (j := 2) rfl rfl (by decide +kernel) (zd_X12_person (23, .invokestatic 181, 3, 0, []) (List.mem_of_getElem? (i := 13) rfl)) [p2, 0, 7] rfl ⟨zp_o1 (zp_r1 (by omega) (by omega)), zp_o1 (zp_r1 (by omega) (by omega)), zp_o1 (zp_r1 (by omega) (by omega)), trivial⟩ (Nat.le_of_ble_eq_true rfl) trivial (fun al hal rnw5 Pw5 Gw5 hextw5 hfrw5 hokw5 hcsw5 hpsiw5 => ?_)
    obtain rfl := List.mem_singleton.mp hal
    have hrw5 := zp_int (hokw5 _ rfl).1
    obtain ⟨hPew5, hGew5, htw5⟩ := hpsiw5
    have htw5 : rnw5 = 1 ↔ 0 ≤ p2 ∧ p2 ≤ 7 := htw5
    rw [hPew5, hGew5]
    refine zp_if (pc := 26) (tgt := 35) hx hb (zd_X12_person (26, .ifCond .ne 9, 3, 0, []) (List.mem_of_getElem? (i := 14) rfl)) rfl (fun (hc24 : ¬ rnw5 = 0) => ?_) (fun (hc24 : ¬ (¬ rnw5 = 0)) => ?_)
    · refine zp_load (pc := 35) hx hb (zd_X12_person (35, .aload_n 0, 1, 0, []) (List.mem_of_getElem? (i := 19) rfl)) rfl (j := 0) rfl ?_
      refine zp_getf (n := (rw_ : Int)) (pc := 36) hx hb hE hw (zd_X12_person (36, .getfield 13, 3, 0, []) (List.mem_of_getElem? (i := 20) rfl)) (j := 21) rfl rfl rfl hp ((zp_set_ne (Or.inr (by decide))).trans (hrw_)) ?_
      refine zp_const (pc := 39) hx hb (zd_X12_person (39, .iconst 0, 1, 0, []) (List.mem_of_getElem? (i := 21) rfl)) rfl rfl ?_
      refine zp_ialdT (j := 0) (v := (pe : Int)) (pc := 40) hx hb hw (zd_X12_person (40, .iaload, 1, 0, []) (List.mem_of_getElem? (i := 22) rfl)) zl_T59 rfl (zl_kd 0) qrw_ (by omega) (show 0 < 5580 by omega) ((zp_set_ne (Or.inl (zp_pne qrw_ hp (by decide)))).trans (hpe)) (fun hk25 => ?_)
      have hk25b := zp_int (show zk_ok u.1 (0, 0, 0, 6) (pe : Int) from hk25)
      refine zp_store (L' := [(3, 0, (pe : Int)), (0, 2, (a : Int)), (1, 0, p1), (2, 0, p2)]) (pc := 41) hx hb hnL (zd_X12_person (41, .istore_n 3, 1, 0, []) (List.mem_of_getElem? (i := 23) rfl)) rfl rfl rfl ?_
      refine zp_load (pc := 42) hx hb (zd_X12_person (42, .iload_n 3, 1, 0, []) (List.mem_of_getElem? (i := 24) rfl)) rfl (j := 0) rfl ?_
      refine zp_const (pc := 43) hx hb (zd_X12_person (43, .bipush 6, 2, 0, []) (List.mem_of_getElem? (i := 25) rfl)) rfl rfl ?_
      refine zp_icmp (pc := 45) (tgt := 55) hx hb (zd_X12_person (45, .if_icmp .ne 10, 3, 0, []) (List.mem_of_getElem? (i := 26) rfl)) rfl (fun (hc26 : ¬ (pe : Int) = 6) => ?_) (fun (hc26 : ¬ (¬ (pe : Int) = 6)) => ?_)
      · refine zp_load (pc := 55) hx hb (zd_X12_person (55, .aload_n 0, 1, 0, []) (List.mem_of_getElem? (i := 31) rfl)) rfl (j := 1) rfl ?_
        refine zp_getf (n := (rw_ : Int)) (pc := 56) hx hb hE hw (zd_X12_person (56, .getfield 13, 3, 0, []) (List.mem_of_getElem? (i := 32) rfl)) (j := 21) rfl rfl rfl hp ((zp_set_ne (Or.inr (by decide))).trans (hrw_)) ?_
        refine zp_const (pc := 59) hx hb (zd_X12_person (59, .bipush 11, 2, 0, []) (List.mem_of_getElem? (i := 33) rfl)) rfl rfl ?_
        refine zp_const (pc := 61) hx hb (zd_X12_person (61, .iconst 3, 1, 0, []) (List.mem_of_getElem? (i := 34) rfl)) rfl rfl ?_
        refine zp_load (pc := 62) hx hb (zd_X12_person (62, .iload_n 3, 1, 0, []) (List.mem_of_getElem? (i := 35) rfl)) rfl (j := 0) rfl ?_
        refine zp_mul (n := (3 * (pe : Int))) (pc := 63) hx hb (zd_X12_person (63, .imul, 1, 0, []) (List.mem_of_getElem? (i := 36) rfl)) (by omega) (zp_r0 (by omega) (by omega)) ?_
        refine zp_add (n := (3 * (pe : Int) + 11)) (pc := 64) hx hb (zd_X12_person (64, .iadd, 1, 0, []) (List.mem_of_getElem? (i := 37) rfl)) (by omega) (zp_r0 (by omega) (by omega)) ?_
        refine zp_load (pc := 65) hx hb (zd_X12_person (65, .iload_n 1, 1, 0, []) (List.mem_of_getElem? (i := 38) rfl)) rfl (j := 2) rfl ?_
        refine zp_iastR (j := (3 * pe + 11)) (pc := 66) hx hb hw heff (zd_X12_person (66, .iastore, 1, 0, []) (List.mem_of_getElem? (i := 39) rfl)) qrw_ (by omega) (by omega) (zr_st (lo := (-2147483648)) (hi := 2147483647) (zr_o pe (by omega)) (by omega) (by omega) (by omega) (by omega)) ⟨5844, rfl, zr_pm (lo := 11) (hi := 28) (by omega) (by omega) (by decide) (by decide)⟩ ?_
        refine zp_load (pc := 67) hx hb (zd_X12_person (67, .aload_n 0, 1, 0, []) (List.mem_of_getElem? (i := 40) rfl)) rfl (j := 1) rfl ?_
        refine zp_getf (n := (rw_ : Int)) (pc := 68) hx hb hE hw (zd_X12_person (68, .getfield 13, 3, 0, []) (List.mem_of_getElem? (i := 41) rfl)) (j := 21) rfl rfl rfl hp ((zp_set_ne (Or.inl (zp_pne hp qrw_ (by decide)))).trans ((zp_set_ne (Or.inr (by decide))).trans (hrw_))) ?_
        refine zp_const (pc := 71) hx hb (zd_X12_person (71, .bipush 11, 2, 0, []) (List.mem_of_getElem? (i := 42) rfl)) rfl rfl ?_
        refine zp_const (pc := 73) hx hb (zd_X12_person (73, .iconst 3, 1, 0, []) (List.mem_of_getElem? (i := 43) rfl)) rfl rfl ?_
        refine zp_load (pc := 74) hx hb (zd_X12_person (74, .iload_n 3, 1, 0, []) (List.mem_of_getElem? (i := 44) rfl)) rfl (j := 0) rfl ?_
        refine zp_mul (n := (3 * (pe : Int))) (pc := 75) hx hb (zd_X12_person (75, .imul, 1, 0, []) (List.mem_of_getElem? (i := 45) rfl)) (by omega) (zp_r0 (by omega) (by omega)) ?_
        refine zp_add (n := (3 * (pe : Int) + 11)) (pc := 76) hx hb (zd_X12_person (76, .iadd, 1, 0, []) (List.mem_of_getElem? (i := 46) rfl)) (by omega) (zp_r0 (by omega) (by omega)) ?_
        refine zp_const (pc := 77) hx hb (zd_X12_person (77, .iconst 1, 1, 0, []) (List.mem_of_getElem? (i := 47) rfl)) rfl rfl ?_
        refine zp_add (n := (3 * (pe : Int) + 12)) (pc := 78) hx hb (zd_X12_person (78, .iadd, 1, 0, []) (List.mem_of_getElem? (i := 48) rfl)) (by omega) (zp_r0 (by omega) (by omega)) ?_
        refine zp_load (pc := 79) hx hb (zd_X12_person (79, .iload_n 2, 1, 0, []) (List.mem_of_getElem? (i := 49) rfl)) rfl (j := 3) rfl ?_
        refine zp_iastR (j := (3 * pe + 12)) (pc := 80) hx hb hw heff (zd_X12_person (80, .iastore, 1, 0, []) (List.mem_of_getElem? (i := 50) rfl)) qrw_ (by omega) (by omega) (zr_st (lo := (-2147483648)) (hi := 2147483647) (zr_p pe (by omega)) (by omega) (by omega) (by omega) (by omega)) ⟨5844, rfl, zr_pm (lo := 11) (hi := 28) (by omega) (by omega) (by decide) (by decide)⟩ ?_
        refine zp_load (pc := 81) hx hb (zd_X12_person (81, .aload_n 0, 1, 0, []) (List.mem_of_getElem? (i := 51) rfl)) rfl (j := 1) rfl ?_
        refine zp_getf (n := (rw_ : Int)) (pc := 82) hx hb hE hw (zd_X12_person (82, .getfield 13, 3, 0, []) (List.mem_of_getElem? (i := 52) rfl)) (j := 21) rfl rfl rfl hp ((zp_set_ne (Or.inl (zp_pne hp qrw_ (by decide)))).trans ((zp_set_ne (Or.inl (zp_pne hp qrw_ (by decide)))).trans ((zp_set_ne (Or.inr (by decide))).trans (hrw_)))) ?_
        refine zp_const (pc := 85) hx hb (zd_X12_person (85, .bipush 11, 2, 0, []) (List.mem_of_getElem? (i := 53) rfl)) rfl rfl ?_
        refine zp_const (pc := 87) hx hb (zd_X12_person (87, .iconst 3, 1, 0, []) (List.mem_of_getElem? (i := 54) rfl)) rfl rfl ?_
        refine zp_load (pc := 88) hx hb (zd_X12_person (88, .iload_n 3, 1, 0, []) (List.mem_of_getElem? (i := 55) rfl)) rfl (j := 0) rfl ?_
        refine zp_mul (n := (3 * (pe : Int))) (pc := 89) hx hb (zd_X12_person (89, .imul, 1, 0, []) (List.mem_of_getElem? (i := 56) rfl)) (by omega) (zp_r0 (by omega) (by omega)) ?_
        refine zp_add (n := (3 * (pe : Int) + 11)) (pc := 90) hx hb (zd_X12_person (90, .iadd, 1, 0, []) (List.mem_of_getElem? (i := 57) rfl)) (by omega) (zp_r0 (by omega) (by omega)) ?_
        refine zp_const (pc := 91) hx hb (zd_X12_person (91, .iconst 2, 1, 0, []) (List.mem_of_getElem? (i := 58) rfl)) rfl rfl ?_
        refine zp_add (n := (3 * (pe : Int) + 13)) (pc := 92) hx hb (zd_X12_person (92, .iadd, 1, 0, []) (List.mem_of_getElem? (i := 59) rfl)) (by omega) (zp_r0 (by omega) (by omega)) ?_
        refine zp_const (pc := 93) hx hb (zd_X12_person (93, .iconst 0, 1, 0, []) (List.mem_of_getElem? (i := 60) rfl)) rfl rfl ?_
        refine zp_iastR (j := (3 * pe + 13)) (pc := 94) hx hb hw heff (zd_X12_person (94, .iastore, 1, 0, []) (List.mem_of_getElem? (i := 61) rfl)) qrw_ (by omega) (by omega) (zr_st (lo := 0) (hi := 9) (zr_l pe (by omega)) (by omega) (by omega) (by omega) (by omega)) ⟨5844, rfl, zr_pm (lo := 11) (hi := 28) (by omega) (by omega) (by decide) (by decide)⟩ ?_
        refine zp_load (pc := 95) hx hb (zd_X12_person (95, .aload_n 0, 1, 0, []) (List.mem_of_getElem? (i := 62) rfl)) rfl (j := 1) rfl ?_
        refine zp_getf (n := (rw_ : Int)) (pc := 96) hx hb hE hw (zd_X12_person (96, .getfield 13, 3, 0, []) (List.mem_of_getElem? (i := 63) rfl)) (j := 21) rfl rfl rfl hp ((zp_set_ne (Or.inl (zp_pne hp qrw_ (by decide)))).trans ((zp_set_ne (Or.inl (zp_pne hp qrw_ (by decide)))).trans ((zp_set_ne (Or.inl (zp_pne hp qrw_ (by decide)))).trans ((zp_set_ne (Or.inr (by decide))).trans (hrw_))))) ?_
        refine zp_const (pc := 99) hx hb (zd_X12_person (99, .iconst 0, 1, 0, []) (List.mem_of_getElem? (i := 64) rfl)) rfl rfl ?_
        refine zp_dup2 (pc := 100) hx hb (zd_X12_person (100, .dup2, 1, 0, []) (List.mem_of_getElem? (i := 65) rfl)) (show (0 : Nat) ≠ 1 by decide) (show (2 : Nat) ≠ 1 by decide) ?_
        refine zp_ialdT (j := 0) (v := (pe : Int)) (pc := 101) hx hb hw (zd_X12_person (101, .iaload, 1, 0, []) (List.mem_of_getElem? (i := 66) rfl)) zl_T59 rfl (zl_kd 0) qrw_ (by omega) (show 0 < 5580 by omega) ((zp_set_ne (Or.inr (by omega))).trans ((zp_set_ne (Or.inr (by omega))).trans ((zp_set_ne (Or.inr (by omega))).trans ((zp_set_ne (Or.inl (zp_pne qrw_ hp (by decide)))).trans (hpe))))) (fun hk27 => ?_)
        have hk27b := zp_int (show zk_ok u.1 (0, 0, 0, 6) (pe : Int) from hk27)
        refine zp_const (pc := 102) hx hb (zd_X12_person (102, .iconst 1, 1, 0, []) (List.mem_of_getElem? (i := 67) rfl)) rfl rfl ?_
        refine zp_add (n := ((pe : Int) + 1)) (pc := 103) hx hb (zd_X12_person (103, .iadd, 1, 0, []) (List.mem_of_getElem? (i := 68) rfl)) (by omega) (zp_r0 (by omega) (by omega)) ?_
        refine zp_iastR (j := 0) (pc := 104) hx hb hw heff (zd_X12_person (104, .iastore, 1, 0, []) (List.mem_of_getElem? (i := 69) rfl)) qrw_ (by omega) (by omega) (zr_st (lo := 0) (hi := 6) (⟨rfl, rfl, rfl⟩) (by omega) (by omega) (by omega) (by omega)) ⟨3000, rfl, zr_pm (lo := 0) (hi := 0) (by omega) (by omega) (by decide) (by decide)⟩ ?_
        refine zp_load (pc := 105) hx hb (zd_X12_person (105, .aload_n 0, 1, 0, []) (List.mem_of_getElem? (i := 70) rfl)) rfl (j := 1) rfl ?_
        refine zp_load (pc := 106) hx hb (zd_X12_person (106, .iload_n 3, 1, 0, []) (List.mem_of_getElem? (i := 71) rfl)) rfl (j := 0) rfl ?_
        refine zp_call (pc := 107) (how := 0) (idx := 185) (mi := 188) (S := []) hx hb hE hw heff hrm (zX_std hW) rfl (j := 3) rfl rfl (by decide +kernel) (zd_X12_person (107, .invokevirtual 185, 3, 0, []) (List.mem_of_getElem? (i := 72) rfl)) [(a : Int), (pe : Int)] rfl ⟨zp_o2 hp, zp_o0 (by omega) (by omega) (by omega) (by omega), trivial⟩ (Nat.le_of_ble_eq_true rfl) trivial (fun al hal rns6 Ps6 Gs6 hexts6 hfrs6 hoks6 hcss6 hpsis6 => ?_)
        obtain rfl := List.mem_singleton.mp hal
        have hrs6 := zp_int (hoks6 _ rfl).1
        have yas6 := hexts6 _ _ hp
        have yrw_s6 := hexts6 _ _ qrw_
        have hts6 : rns6 = (pe : Int) := hpsis6
        have ez0 : Gs6 rw_ (2000 + 0) = ((pe : Int) + 1) := ((zp_nc hfrs6 qrw_ rfl (2000 + 0)).trans zp_set_self)
        refine zp_iret (pc := 110) (n := rns6) hx hb hE hQ hU5 rfl (by decide) (zd_X12_person (110, .ireturn, 1, 0, []) (List.mem_of_getElem? (i := 73) rfl)) (j := 0) rfl (zp_o0 (by omega) (by omega) (by omega) (by omega)) ?_
        rw [hps]
        show (¬ (0 ≤ p1 ∧ p1 ≤ 9 ∧ 0 ≤ p2 ∧ p2 ≤ 7) → rns6 = -1 ∧ Gs6 (zp_n u.2.1 a 3).toNat (2000 + 0) = zp_n u.2.1 (zp_n u.2.1 a 3).toNat (2000 + 0)) ∧ ((0 ≤ p1 ∧ p1 ≤ 9 ∧ 0 ≤ p2 ∧ p2 ≤ 7) ∧ 6 ≤ zp_n u.2.1 (zp_n u.2.1 a 3).toNat (2000 + 0) → rns6 = -5 ∧ Gs6 (zp_n u.2.1 a 3).toNat (2000 + 0) = zp_n u.2.1 (zp_n u.2.1 a 3).toNat (2000 + 0)) ∧ ((0 ≤ p1 ∧ p1 ≤ 9 ∧ 0 ≤ p2 ∧ p2 ≤ 7) ∧ zp_n u.2.1 (zp_n u.2.1 a 3).toNat (2000 + 0) < 6 → rns6 = zp_n u.2.1 (zp_n u.2.1 a 3).toNat (2000 + 0) ∧ Gs6 (zp_n u.2.1 a 3).toNat (2000 + 0) = zp_n u.2.1 (zp_n u.2.1 a 3).toNat (2000 + 0) + 1)
        rw [hrt]
        omega
      · refine zp_load (pc := 48) hx hb (zd_X12_person (48, .aload_n 0, 1, 0, []) (List.mem_of_getElem? (i := 27) rfl)) rfl (j := 1) rfl ?_
        refine zp_const (pc := 49) hx hb (zd_X12_person (49, .bipush (-5), 2, 0, []) (List.mem_of_getElem? (i := 28) rfl)) rfl rfl ?_
        refine zp_call (pc := 51) (how := 0) (idx := 170) (mi := 183) (S := []) hx hb hE hw heff hrm (zX_te13 hW) rfl (j := 0) rfl rfl (by decide +kernel) (zd_X12_person (51, .invokevirtual 170, 3, 0, []) (List.mem_of_getElem? (i := 29) rfl)) [(a : Int), (-5)] rfl ⟨zp_o2 hp, zp_o0 (by omega) (by omega) (by omega) (by omega), trivial⟩ (Nat.le_of_ble_eq_true rfl) trivial (fun al hal rnr7 Pr7 Gr7 hextr7 hfrr7 hokr7 hcsr7 hpsir7 => ?_)
        obtain rfl := List.mem_singleton.mp hal
        have hrr7 := zp_int (hokr7 _ rfl).1
        have yar7 := hextr7 _ _ hp
        have yrw_r7 := hextr7 _ _ qrw_
        have htr7 : rnr7 = (-5) := hpsir7.2
        have ez0 : Gr7 rw_ (2000 + 0) = (pe : Int) := ((zp_nc hfrr7 qrw_ rfl (2000 + 0)).trans ((zp_set_ne (Or.inl (zp_pne qrw_ hp (by decide)))).trans (hpe)))
        refine zp_iret (pc := 54) (n := rnr7) hx hb hE hQ hU5 rfl (by decide) (zd_X12_person (54, .ireturn, 1, 0, []) (List.mem_of_getElem? (i := 30) rfl)) (j := 0) rfl (zp_o0 (by omega) (by omega) (by omega) (by omega)) ?_
        rw [hps]
        show (¬ (0 ≤ p1 ∧ p1 ≤ 9 ∧ 0 ≤ p2 ∧ p2 ≤ 7) → rnr7 = -1 ∧ Gr7 (zp_n u.2.1 a 3).toNat (2000 + 0) = zp_n u.2.1 (zp_n u.2.1 a 3).toNat (2000 + 0)) ∧ ((0 ≤ p1 ∧ p1 ≤ 9 ∧ 0 ≤ p2 ∧ p2 ≤ 7) ∧ 6 ≤ zp_n u.2.1 (zp_n u.2.1 a 3).toNat (2000 + 0) → rnr7 = -5 ∧ Gr7 (zp_n u.2.1 a 3).toNat (2000 + 0) = zp_n u.2.1 (zp_n u.2.1 a 3).toNat (2000 + 0)) ∧ ((0 ≤ p1 ∧ p1 ≤ 9 ∧ 0 ≤ p2 ∧ p2 ≤ 7) ∧ zp_n u.2.1 (zp_n u.2.1 a 3).toNat (2000 + 0) < 6 → rnr7 = zp_n u.2.1 (zp_n u.2.1 a 3).toNat (2000 + 0) ∧ Gr7 (zp_n u.2.1 a 3).toNat (2000 + 0) = zp_n u.2.1 (zp_n u.2.1 a 3).toNat (2000 + 0) + 1)
        rw [hrt]
        omega
    · refine zp_load (pc := 29) hx hb (zd_X12_person (29, .aload_n 0, 1, 0, []) (List.mem_of_getElem? (i := 15) rfl)) rfl (j := 0) rfl ?_
      refine zp_const (pc := 30) hx hb (zd_X12_person (30, .iconst (-1), 1, 0, []) (List.mem_of_getElem? (i := 16) rfl)) rfl rfl ?_
      refine zp_call (pc := 31) (how := 0) (idx := 170) (mi := 183) (S := []) hx hb hE hw heff hrm (zX_te13 hW) rfl (j := 0) rfl rfl (by decide +kernel) (zd_X12_person (31, .invokevirtual 170, 3, 0, []) (List.mem_of_getElem? (i := 17) rfl)) [(a : Int), (-1)] rfl ⟨zp_o2 hp, zp_o0 (by omega) (by omega) (by omega) (by omega), trivial⟩ (Nat.le_of_ble_eq_true rfl) trivial (fun al hal rnr8 Pr8 Gr8 hextr8 hfrr8 hokr8 hcsr8 hpsir8 => ?_)
      obtain rfl := List.mem_singleton.mp hal
      have hrr8 := zp_int (hokr8 _ rfl).1
      have yar8 := hextr8 _ _ hp
      have yrw_r8 := hextr8 _ _ qrw_
      have htr8 : rnr8 = (-1) := hpsir8.2
      have ez0 : Gr8 rw_ (2000 + 0) = (pe : Int) := ((zp_nc hfrr8 qrw_ rfl (2000 + 0)).trans ((zp_set_ne (Or.inl (zp_pne qrw_ hp (by decide)))).trans (hpe)))
      refine zp_iret (pc := 34) (n := rnr8) hx hb hE hQ hU5 rfl (by decide) (zd_X12_person (34, .ireturn, 1, 0, []) (List.mem_of_getElem? (i := 18) rfl)) (j := 0) rfl (zp_o0 (by omega) (by omega) (by omega) (by omega)) ?_
      rw [hps]
      show (¬ (0 ≤ p1 ∧ p1 ≤ 9 ∧ 0 ≤ p2 ∧ p2 ≤ 7) → rnr8 = -1 ∧ Gr8 (zp_n u.2.1 a 3).toNat (2000 + 0) = zp_n u.2.1 (zp_n u.2.1 a 3).toNat (2000 + 0)) ∧ ((0 ≤ p1 ∧ p1 ≤ 9 ∧ 0 ≤ p2 ∧ p2 ≤ 7) ∧ 6 ≤ zp_n u.2.1 (zp_n u.2.1 a 3).toNat (2000 + 0) → rnr8 = -5 ∧ Gr8 (zp_n u.2.1 a 3).toNat (2000 + 0) = zp_n u.2.1 (zp_n u.2.1 a 3).toNat (2000 + 0)) ∧ ((0 ≤ p1 ∧ p1 ≤ 9 ∧ 0 ≤ p2 ∧ p2 ≤ 7) ∧ zp_n u.2.1 (zp_n u.2.1 a 3).toNat (2000 + 0) < 6 → rnr8 = zp_n u.2.1 (zp_n u.2.1 a 3).toNat (2000 + 0) ∧ Gr8 (zp_n u.2.1 a 3).toNat (2000 + 0) = zp_n u.2.1 (zp_n u.2.1 a 3).toNat (2000 + 0) + 1)
      rw [hrt]
      omega
def zK_mw1 : zk_K := (zt_mn 199, prog_14_method_26_code, 8, (Option.some Jvm.ClassFile.FieldType.int), 1, 12, [(2, 13, 0, 0), (0, 0, (-2147483648), 2147483647), (0, 0, (-2147483648), 2147483647), (0, 0, (-2147483648), 2147483647), (0, 0, (-2147483648), 2147483647), (0, 0, (-2147483648), 2147483647)], [(some (0, 0, (-5), 9), [])], [(59, 13072, 0), (59, 10462, 0), (59, 3257, 0)], (2, 60, 0, 0))
def zψ_mw1 : (Nat → Option Nat) → (Nat → Nat → Int) → List Int → (Nat → Option Nat) → (Nat → Nat → Int) → Int → Prop := fun P G ps P' G' rn => P' = P ∧ (¬ (1 ≤ ps.getD 2 0 ∧ ps.getD 2 0 ≤ 600 ∧ 0 ≤ ps.getD 3 0 ∧ ps.getD 3 0 ≤ 23 ∧ 1 ≤ ps.getD 4 0 ∧ ps.getD 4 0 ≤ 99) → rn = -1 ∧ G' (G (zp_0 ps) 3).toNat (2000 + 1) = G (G (zp_0 ps) 3).toNat (2000 + 1)) ∧ ((1 ≤ ps.getD 2 0 ∧ ps.getD 2 0 ≤ 600 ∧ 0 ≤ ps.getD 3 0 ∧ ps.getD 3 0 ≤ 23 ∧ 1 ≤ ps.getD 4 0 ∧ ps.getD 4 0 ≤ 99) ∧ ¬ (0 ≤ ps.getD 1 0 ∧ ps.getD 1 0 < G (G (zp_0 ps) 3).toNat (2000 + 0) ∧ (ps.getD 5 0 = -1 ∨ (0 ≤ ps.getD 5 0 ∧ ps.getD 5 0 < G (G (zp_0 ps) 3).toNat (2000 + 1)))) → rn = -2 ∧ G' (G (zp_0 ps) 3).toNat (2000 + 1) = G (G (zp_0 ps) 3).toNat (2000 + 1)) ∧ ((1 ≤ ps.getD 2 0 ∧ ps.getD 2 0 ≤ 600 ∧ 0 ≤ ps.getD 3 0 ∧ ps.getD 3 0 ≤ 23 ∧ 1 ≤ ps.getD 4 0 ∧ ps.getD 4 0 ≤ 99) ∧ (0 ≤ ps.getD 1 0 ∧ ps.getD 1 0 < G (G (zp_0 ps) 3).toNat (2000 + 0) ∧ (ps.getD 5 0 = -1 ∨ (0 ≤ ps.getD 5 0 ∧ ps.getD 5 0 < G (G (zp_0 ps) 3).toNat (2000 + 1)))) ∧ 10 ≤ G (G (zp_0 ps) 3).toNat (2000 + 1) → rn = -5 ∧ G' (G (zp_0 ps) 3).toNat (2000 + 1) = G (G (zp_0 ps) 3).toNat (2000 + 1)) ∧ ((1 ≤ ps.getD 2 0 ∧ ps.getD 2 0 ≤ 600 ∧ 0 ≤ ps.getD 3 0 ∧ ps.getD 3 0 ≤ 23 ∧ 1 ≤ ps.getD 4 0 ∧ ps.getD 4 0 ≤ 99) ∧ (0 ≤ ps.getD 1 0 ∧ ps.getD 1 0 < G (G (zp_0 ps) 3).toNat (2000 + 0) ∧ (ps.getD 5 0 = -1 ∨ (0 ≤ ps.getD 5 0 ∧ ps.getD 5 0 < G (G (zp_0 ps) 3).toNat (2000 + 1)))) ∧ G (G (zp_0 ps) 3).toNat (2000 + 1) < 10 → rn = G (G (zp_0 ps) 3).toNat (2000 + 1) ∧ G' (G (zp_0 ps) 3).toNat (2000 + 1) = G (G (zp_0 ps) 3).toNat (2000 + 1) + 1)
theorem zX_mw1 {l : Launch} {w : zk_W} (hW : zh_W w) : zk_metX l w zt_dv zt_TB zK_mw1 (zp_A zp_tA) (zp_B zψ_mw1) ∧ zk_cok w zt_TB zK_mw1 := by
  refine zp_methX (cn := "WoundTownModel") zp_lkall hW (pl := 1628) rfl (by decide +kernel) (fun p e R s m args below meth c Q u hx hb hE hQ hU5 heff hnL hok hφ => ?_)
  have hw := hW.1
  obtain ⟨p0, p1, p2, p3, p4, p5, hps, k0, k1, k2, k3, k4, k5⟩ := zp_ps6 hok
  obtain ⟨a, rfl, hp⟩ := zp_this k0
  have hrm : zk_Kr (zk_ev (zt_types, zp_lk, zt_dv, [], [], zp_lc, zK_mw1)) = zk_Kr zK_mw1 := rfl
  rw [hps] at hφ ⊢
  have hi1 := zp_int k1
  have hi2 := zp_int k2
  have hi3 := zp_int k3
  have hi4 := zp_int k4
  have hi5 := zp_int k5
  show zp_J p l e R s m args below meth c Q w u [] 0 [(0, 2, (a : Int)), (1, 0, p1), (2, 0, p2), (3, 0, p3), (4, 0, p4), (5, 0, p5)] [] u.1 (zp_n u.2.1)
  refine zp_kn (k := 3) (a := a) hw (show zp_fd 13 3 = some (12, 2, 59, 0, 0) from rfl) rfl hp (fun hkrw_ => ?_)
  obtain ⟨rw_, hrw_, qrw_⟩ := zp_this hkrw_
  have qrw : u.1 rw_ = some 59 := qrw_
  have hrt : (zp_n u.2.1 a 3).toNat = rw_ := by rw [hrw_, Int.toNat_natCast]
  refine zp_kaT hw qrw zl_T59 rfl zl_kd (fun hkape => ?_)
  have hkpe : zk_ok u.1 (0, 0, 0, 6) (zp_n u.2.1 rw_ (2000 + 0)) := hkape 0 (show 0 < 5580 by decide)
  obtain ⟨pe, hpe⟩ := zp_nat (zp_int hkpe).1
  have hpeb := zp_int hkpe
  rw [hpe] at hpeb
  refine zp_kaT hw qrw zl_T59 rfl zl_kd (fun hkawk => ?_)
  have hkwk : zk_ok u.1 (0, 0, 0, 10) (zp_n u.2.1 rw_ (2000 + 1)) := hkawk 1 (show 1 < 5580 by decide)
  obtain ⟨wk, hwk⟩ := zp_nat (zp_int hkwk).1
  have hwkb := zp_int hkwk
  rw [hwk] at hwkb
  refine zp_load (pc := 0) hx hb (zd_X12_work1 (0, .iload_n 2, 1, 0, []) (List.mem_of_getElem? (i := 0) rfl)) rfl (j := 2) rfl ?_
  refine zp_i2l (pc := 1) hx hb (zd_X12_work1 (1, .i2l, 1, 0, []) (List.mem_of_getElem? (i := 1) rfl)) ?_
  refine zp_const (pc := 2) hx hb (zd_X12_work1 (2, .lconst 1, 1, 0, []) (List.mem_of_getElem? (i := 2) rfl)) rfl rfl ?_
  refine zp_ldc2 (pc := 3) hx hb hE (zd_X12_work1 (3, .ldc2_w 213, 3, 0, []) (List.mem_of_getElem? (i := 3) rfl)) (j := 86) rfl ?_
  refine zp_call (pc := 6) (how := 1) (idx := 181) (mi := 186) (S := []) hx hb hE hw heff hrm (zX_in2 hW) rfl (j := 2) rfl rfl (by decide +kernel) (zd_X12_work1 (6, .invokestatic 181, 3, 0, []) (List.mem_of_getElem? (i := 4) rfl)) [p2, 1, 600] rfl ⟨zp_o1 (zp_r1 (by omega) (by omega)), zp_o1 (zp_r1 (by omega) (by omega)), zp_o1 (zp_r1 (by omega) (by omega)), trivial⟩ (Nat.le_of_ble_eq_true rfl) trivial (fun al hal rnw9 Pw9 Gw9 hextw9 hfrw9 hokw9 hcsw9 hpsiw9 => ?_)
  obtain rfl := List.mem_singleton.mp hal
  have hrw9 := zp_int (hokw9 _ rfl).1
  obtain ⟨hPew9, hGew9, htw9⟩ := hpsiw9
  have htw9 : rnw9 = 1 ↔ 1 ≤ p2 ∧ p2 ≤ 600 := htw9
  rw [hPew9, hGew9]
  refine zp_if (pc := 9) (tgt := 37) hx hb (zd_X12_work1 (9, .ifCond .eq 28, 3, 0, []) (List.mem_of_getElem? (i := 5) rfl)) rfl (fun (hc28 : rnw9 = 0) => ?_) (fun (hc28 : ¬ (rnw9 = 0)) => ?_)
  · refine zp_const (pc := 37) hx hb (zd_X12_work1 (37, .iconst (-1), 1, 0, []) (List.mem_of_getElem? (i := 18) rfl)) rfl rfl ?_
    have ez0 : (zp_n u.2.1) rw_ (2000 + 1) = (wk : Int) := hwk
    refine zp_iret (pc := 38) (n := (-1)) hx hb hE hQ hU5 rfl (by decide) (zd_X12_work1 (38, .ireturn, 1, 0, []) (List.mem_of_getElem? (i := 19) rfl)) (j := 0) rfl (zp_o0 (by omega) (by omega) (by omega) (by omega)) ?_
    rw [hps]
    refine ⟨rfl, ?_⟩
    show (¬ (1 ≤ p2 ∧ p2 ≤ 600 ∧ 0 ≤ p3 ∧ p3 ≤ 23 ∧ 1 ≤ p4 ∧ p4 ≤ 99) → (-1) = -1 ∧ (zp_n u.2.1) (zp_n u.2.1 a 3).toNat (2000 + 1) = zp_n u.2.1 (zp_n u.2.1 a 3).toNat (2000 + 1)) ∧ ((1 ≤ p2 ∧ p2 ≤ 600 ∧ 0 ≤ p3 ∧ p3 ≤ 23 ∧ 1 ≤ p4 ∧ p4 ≤ 99) ∧ ¬ (0 ≤ p1 ∧ p1 < zp_n u.2.1 (zp_n u.2.1 a 3).toNat (2000 + 0) ∧ (p5 = -1 ∨ (0 ≤ p5 ∧ p5 < zp_n u.2.1 (zp_n u.2.1 a 3).toNat (2000 + 1)))) → (-1) = -2 ∧ (zp_n u.2.1) (zp_n u.2.1 a 3).toNat (2000 + 1) = zp_n u.2.1 (zp_n u.2.1 a 3).toNat (2000 + 1)) ∧ ((1 ≤ p2 ∧ p2 ≤ 600 ∧ 0 ≤ p3 ∧ p3 ≤ 23 ∧ 1 ≤ p4 ∧ p4 ≤ 99) ∧ (0 ≤ p1 ∧ p1 < zp_n u.2.1 (zp_n u.2.1 a 3).toNat (2000 + 0) ∧ (p5 = -1 ∨ (0 ≤ p5 ∧ p5 < zp_n u.2.1 (zp_n u.2.1 a 3).toNat (2000 + 1)))) ∧ 10 ≤ zp_n u.2.1 (zp_n u.2.1 a 3).toNat (2000 + 1) → (-1) = -5 ∧ (zp_n u.2.1) (zp_n u.2.1 a 3).toNat (2000 + 1) = zp_n u.2.1 (zp_n u.2.1 a 3).toNat (2000 + 1)) ∧ ((1 ≤ p2 ∧ p2 ≤ 600 ∧ 0 ≤ p3 ∧ p3 ≤ 23 ∧ 1 ≤ p4 ∧ p4 ≤ 99) ∧ (0 ≤ p1 ∧ p1 < zp_n u.2.1 (zp_n u.2.1 a 3).toNat (2000 + 0) ∧ (p5 = -1 ∨ (0 ≤ p5 ∧ p5 < zp_n u.2.1 (zp_n u.2.1 a 3).toNat (2000 + 1)))) ∧ zp_n u.2.1 (zp_n u.2.1 a 3).toNat (2000 + 1) < 10 → (-1) = zp_n u.2.1 (zp_n u.2.1 a 3).toNat (2000 + 1) ∧ (zp_n u.2.1) (zp_n u.2.1 a 3).toNat (2000 + 1) = zp_n u.2.1 (zp_n u.2.1 a 3).toNat (2000 + 1) + 1)
    rw [hrt]
    omega
  · refine zp_load (pc := 12) hx hb (zd_X12_work1 (12, .iload_n 3, 1, 0, []) (List.mem_of_getElem? (i := 6) rfl)) rfl (j := 3) rfl ?_
    refine zp_i2l (pc := 13) hx hb (zd_X12_work1 (13, .i2l, 1, 0, []) (List.mem_of_getElem? (i := 7) rfl)) ?_
    refine zp_const (pc := 14) hx hb (zd_X12_work1 (14, .lconst 0, 1, 0, []) (List.mem_of_getElem? (i := 8) rfl)) rfl rfl ?_
    refine zp_ldc2 (pc := 15) hx hb hE (zd_X12_work1 (15, .ldc2_w 215, 3, 0, []) (List.mem_of_getElem? (i := 9) rfl)) (j := 87) rfl ?_
    refine zp_call (pc := 18) (how := 1) (idx := 181) (mi := 186) (S := []) hx hb hE hw heff hrm (zX_in2 hW) rfl (j := 2) rfl rfl (by decide +kernel) (zd_X12_work1 (18, .invokestatic 181, 3, 0, []) (List.mem_of_getElem? (i := 10) rfl)) [p3, 0, 23] rfl ⟨zp_o1 (zp_r1 (by omega) (by omega)), zp_o1 (zp_r1 (by omega) (by omega)), zp_o1 (zp_r1 (by omega) (by omega)), trivial⟩ (Nat.le_of_ble_eq_true rfl) trivial (fun al hal rnw10 Pw10 Gw10 hextw10 hfrw10 hokw10 hcsw10 hpsiw10 => ?_)
    obtain rfl := List.mem_singleton.mp hal
    have hrw10 := zp_int (hokw10 _ rfl).1
    obtain ⟨hPew10, hGew10, htw10⟩ := hpsiw10
    have htw10 : rnw10 = 1 ↔ 0 ≤ p3 ∧ p3 ≤ 23 := htw10
    rw [hPew10, hGew10]
    refine zp_if (pc := 21) (tgt := 37) hx hb (zd_X12_work1 (21, .ifCond .eq 16, 3, 0, []) (List.mem_of_getElem? (i := 11) rfl)) rfl (fun (hc29 : rnw10 = 0) => ?_) (fun (hc29 : ¬ (rnw10 = 0)) => ?_)
    · refine zp_const (pc := 37) hx hb (zd_X12_work1 (37, .iconst (-1), 1, 0, []) (List.mem_of_getElem? (i := 18) rfl)) rfl rfl ?_
      have ez0 : (zp_n u.2.1) rw_ (2000 + 1) = (wk : Int) := hwk
      refine zp_iret (pc := 38) (n := (-1)) hx hb hE hQ hU5 rfl (by decide) (zd_X12_work1 (38, .ireturn, 1, 0, []) (List.mem_of_getElem? (i := 19) rfl)) (j := 0) rfl (zp_o0 (by omega) (by omega) (by omega) (by omega)) ?_
      rw [hps]
      refine ⟨rfl, ?_⟩
      show (¬ (1 ≤ p2 ∧ p2 ≤ 600 ∧ 0 ≤ p3 ∧ p3 ≤ 23 ∧ 1 ≤ p4 ∧ p4 ≤ 99) → (-1) = -1 ∧ (zp_n u.2.1) (zp_n u.2.1 a 3).toNat (2000 + 1) = zp_n u.2.1 (zp_n u.2.1 a 3).toNat (2000 + 1)) ∧ ((1 ≤ p2 ∧ p2 ≤ 600 ∧ 0 ≤ p3 ∧ p3 ≤ 23 ∧ 1 ≤ p4 ∧ p4 ≤ 99) ∧ ¬ (0 ≤ p1 ∧ p1 < zp_n u.2.1 (zp_n u.2.1 a 3).toNat (2000 + 0) ∧ (p5 = -1 ∨ (0 ≤ p5 ∧ p5 < zp_n u.2.1 (zp_n u.2.1 a 3).toNat (2000 + 1)))) → (-1) = -2 ∧ (zp_n u.2.1) (zp_n u.2.1 a 3).toNat (2000 + 1) = zp_n u.2.1 (zp_n u.2.1 a 3).toNat (2000 + 1)) ∧ ((1 ≤ p2 ∧ p2 ≤ 600 ∧ 0 ≤ p3 ∧ p3 ≤ 23 ∧ 1 ≤ p4 ∧ p4 ≤ 99) ∧ (0 ≤ p1 ∧ p1 < zp_n u.2.1 (zp_n u.2.1 a 3).toNat (2000 + 0) ∧ (p5 = -1 ∨ (0 ≤ p5 ∧ p5 < zp_n u.2.1 (zp_n u.2.1 a 3).toNat (2000 + 1)))) ∧ 10 ≤ zp_n u.2.1 (zp_n u.2.1 a 3).toNat (2000 + 1) → (-1) = -5 ∧ (zp_n u.2.1) (zp_n u.2.1 a 3).toNat (2000 + 1) = zp_n u.2.1 (zp_n u.2.1 a 3).toNat (2000 + 1)) ∧ ((1 ≤ p2 ∧ p2 ≤ 600 ∧ 0 ≤ p3 ∧ p3 ≤ 23 ∧ 1 ≤ p4 ∧ p4 ≤ 99) ∧ (0 ≤ p1 ∧ p1 < zp_n u.2.1 (zp_n u.2.1 a 3).toNat (2000 + 0) ∧ (p5 = -1 ∨ (0 ≤ p5 ∧ p5 < zp_n u.2.1 (zp_n u.2.1 a 3).toNat (2000 + 1)))) ∧ zp_n u.2.1 (zp_n u.2.1 a 3).toNat (2000 + 1) < 10 → (-1) = zp_n u.2.1 (zp_n u.2.1 a 3).toNat (2000 + 1) ∧ (zp_n u.2.1) (zp_n u.2.1 a 3).toNat (2000 + 1) = zp_n u.2.1 (zp_n u.2.1 a 3).toNat (2000 + 1) + 1)
      rw [hrt]
      omega
    · refine zp_load (pc := 24) hx hb (zd_X12_work1 (24, .iload 4, 2, 0, []) (List.mem_of_getElem? (i := 12) rfl)) rfl (j := 4) rfl ?_
      refine zp_i2l (pc := 26) hx hb (zd_X12_work1 (26, .i2l, 1, 0, []) (List.mem_of_getElem? (i := 13) rfl)) ?_
      refine zp_const (pc := 27) hx hb (zd_X12_work1 (27, .lconst 1, 1, 0, []) (List.mem_of_getElem? (i := 14) rfl)) rfl rfl ?_
      refine zp_ldc2 (pc := 28) hx hb hE (zd_X12_work1 (28, .ldc2_w 194, 3, 0, []) (List.mem_of_getElem? (i := 15) rfl)) (j := 83) rfl ?_
      refine zp_call (pc := 31) (how := 1) (idx := 181) (mi := 186) (S := []) hx hb hE hw heff hrm (zX_in2 hW) rfl (j := 2) rfl rfl (by decide +kernel) (zd_X12_work1 (31, .invokestatic 181, 3, 0, []) (List.mem_of_getElem? (i := 16) rfl)) [p4, 1, 99] rfl ⟨zp_o1 (zp_r1 (by omega) (by omega)), zp_o1 (zp_r1 (by omega) (by omega)), zp_o1 (zp_r1 (by omega) (by omega)), trivial⟩ (Nat.le_of_ble_eq_true rfl) trivial (fun al hal rnw11 Pw11 Gw11 hextw11 hfrw11 hokw11 hcsw11 hpsiw11 => ?_)
      obtain rfl := List.mem_singleton.mp hal
      have hrw11 := zp_int (hokw11 _ rfl).1
      obtain ⟨hPew11, hGew11, htw11⟩ := hpsiw11
      have htw11 : rnw11 = 1 ↔ 1 ≤ p4 ∧ p4 ≤ 99 := htw11
      rw [hPew11, hGew11]
      refine zp_if (pc := 34) (tgt := 39) hx hb (zd_X12_work1 (34, .ifCond .ne 5, 3, 0, []) (List.mem_of_getElem? (i := 17) rfl)) rfl (fun (hc30 : ¬ rnw11 = 0) => ?_) (fun (hc30 : ¬ (¬ rnw11 = 0)) => ?_)
      · refine zp_load (pc := 39) hx hb (zd_X12_work1 (39, .aload_n 0, 1, 0, []) (List.mem_of_getElem? (i := 20) rfl)) rfl (j := 0) rfl ?_
        refine zp_load (pc := 40) hx hb (zd_X12_work1 (40, .iload_n 1, 1, 0, []) (List.mem_of_getElem? (i := 21) rfl)) rfl (j := 1) rfl ?_
        have hvh12 : (zp_n u.2.1) rw_ (2000 + 0) = (pe : Int) := hpe
        have hwh12 : (zp_n u.2.1) a 3 = (rw_ : Int) := hrw_
        refine zp_call (pc := 41) (how := 0) (idx := 201) (mi := 193) (S := []) hx hb hE hw heff hrm (zX_mip hW) rfl (j := 5) rfl rfl (by decide +kernel) (zd_X12_work1 (41, .invokevirtual 201, 3, 0, []) (List.mem_of_getElem? (i := 22) rfl)) [(a : Int), p1] rfl ⟨zp_o2 hp, zp_o0 (by omega) (by omega) (by omega) (by omega), trivial⟩ (Nat.le_of_ble_eq_true rfl) trivial (fun al hal rnh12 Ph12 Gh12 hexth12 hfrh12 hokh12 hcsh12 hpsih12 => ?_)
        obtain rfl := List.mem_singleton.mp hal
        have hrh12 := zp_int (hokh12 _ rfl).1
        obtain ⟨hPeh12, hGeh12, hth12⟩ := hpsih12
        have hth12 : rnh12 = 1 ↔ 0 ≤ p1 ∧ p1 < (zp_n u.2.1) ((zp_n u.2.1) a 3).toNat (2000 + 0) := hth12
        rw [hPeh12, hGeh12]
        rw [hwh12, show ((rw_ : Int)).toNat = rw_ from rfl, hvh12] at hth12
        refine zp_if (pc := 44) (tgt := 62) hx hb (zd_X12_work1 (44, .ifCond .eq 18, 3, 0, []) (List.mem_of_getElem? (i := 23) rfl)) rfl (fun (hc31 : rnh12 = 0) => ?_) (fun (hc31 : ¬ (rnh12 = 0)) => ?_)
        · refine zp_const (pc := 62) hx hb (zd_X12_work1 (62, .bipush (-2), 2, 0, []) (List.mem_of_getElem? (i := 31) rfl)) rfl rfl ?_
          have ez0 : (zp_n u.2.1) rw_ (2000 + 1) = (wk : Int) := hwk
          refine zp_iret (pc := 64) (n := (-2)) hx hb hE hQ hU5 rfl (by decide) (zd_X12_work1 (64, .ireturn, 1, 0, []) (List.mem_of_getElem? (i := 32) rfl)) (j := 0) rfl (zp_o0 (by omega) (by omega) (by omega) (by omega)) ?_
          rw [hps]
          refine ⟨rfl, ?_⟩
          show (¬ (1 ≤ p2 ∧ p2 ≤ 600 ∧ 0 ≤ p3 ∧ p3 ≤ 23 ∧ 1 ≤ p4 ∧ p4 ≤ 99) → (-2) = -1 ∧ (zp_n u.2.1) (zp_n u.2.1 a 3).toNat (2000 + 1) = zp_n u.2.1 (zp_n u.2.1 a 3).toNat (2000 + 1)) ∧ ((1 ≤ p2 ∧ p2 ≤ 600 ∧ 0 ≤ p3 ∧ p3 ≤ 23 ∧ 1 ≤ p4 ∧ p4 ≤ 99) ∧ ¬ (0 ≤ p1 ∧ p1 < zp_n u.2.1 (zp_n u.2.1 a 3).toNat (2000 + 0) ∧ (p5 = -1 ∨ (0 ≤ p5 ∧ p5 < zp_n u.2.1 (zp_n u.2.1 a 3).toNat (2000 + 1)))) → (-2) = -2 ∧ (zp_n u.2.1) (zp_n u.2.1 a 3).toNat (2000 + 1) = zp_n u.2.1 (zp_n u.2.1 a 3).toNat (2000 + 1)) ∧ ((1 ≤ p2 ∧ p2 ≤ 600 ∧ 0 ≤ p3 ∧ p3 ≤ 23 ∧ 1 ≤ p4 ∧ p4 ≤ 99) ∧ (0 ≤ p1 ∧ p1 < zp_n u.2.1 (zp_n u.2.1 a 3).toNat (2000 + 0) ∧ (p5 = -1 ∨ (0 ≤ p5 ∧ p5 < zp_n u.2.1 (zp_n u.2.1 a 3).toNat (2000 + 1)))) ∧ 10 ≤ zp_n u.2.1 (zp_n u.2.1 a 3).toNat (2000 + 1) → (-2) = -5 ∧ (zp_n u.2.1) (zp_n u.2.1 a 3).toNat (2000 + 1) = zp_n u.2.1 (zp_n u.2.1 a 3).toNat (2000 + 1)) ∧ ((1 ≤ p2 ∧ p2 ≤ 600 ∧ 0 ≤ p3 ∧ p3 ≤ 23 ∧ 1 ≤ p4 ∧ p4 ≤ 99) ∧ (0 ≤ p1 ∧ p1 < zp_n u.2.1 (zp_n u.2.1 a 3).toNat (2000 + 0) ∧ (p5 = -1 ∨ (0 ≤ p5 ∧ p5 < zp_n u.2.1 (zp_n u.2.1 a 3).toNat (2000 + 1)))) ∧ zp_n u.2.1 (zp_n u.2.1 a 3).toNat (2000 + 1) < 10 → (-2) = zp_n u.2.1 (zp_n u.2.1 a 3).toNat (2000 + 1) ∧ (zp_n u.2.1) (zp_n u.2.1 a 3).toNat (2000 + 1) = zp_n u.2.1 (zp_n u.2.1 a 3).toNat (2000 + 1) + 1)
          rw [hrt]
          omega
        · refine zp_load (pc := 47) hx hb (zd_X12_work1 (47, .iload 5, 2, 0, []) (List.mem_of_getElem? (i := 24) rfl)) rfl (j := 5) rfl ?_
          refine zp_const (pc := 49) hx hb (zd_X12_work1 (49, .iconst (-1), 1, 0, []) (List.mem_of_getElem? (i := 25) rfl)) rfl rfl ?_
          refine zp_icmp (pc := 50) (tgt := 65) hx hb (zd_X12_work1 (50, .if_icmp .eq 15, 3, 0, []) (List.mem_of_getElem? (i := 26) rfl)) rfl (fun (hc32 : p5 = (-1)) => ?_) (fun (hc32 : ¬ (p5 = (-1))) => ?_)
          · refine zp_load (pc := 65) hx hb (zd_X12_work1 (65, .aload_n 0, 1, 0, []) (List.mem_of_getElem? (i := 33) rfl)) rfl (j := 0) rfl ?_
            refine zp_getf (n := (rw_ : Int)) (pc := 66) hx hb hE hw (zd_X12_work1 (66, .getfield 13, 3, 0, []) (List.mem_of_getElem? (i := 34) rfl)) (j := 21) rfl rfl rfl hp hrw_ ?_
            refine zp_const (pc := 69) hx hb (zd_X12_work1 (69, .iconst 1, 1, 0, []) (List.mem_of_getElem? (i := 35) rfl)) rfl rfl ?_
            refine zp_ialdT (j := 1) (v := (wk : Int)) (pc := 70) hx hb hw (zd_X12_work1 (70, .iaload, 1, 0, []) (List.mem_of_getElem? (i := 36) rfl)) zl_T59 rfl (zl_kd 1) qrw_ (by omega) (show 1 < 5580 by omega) hwk (fun hk33 => ?_)
            have hk33b := zp_int (show zk_ok u.1 (0, 0, 0, 10) (wk : Int) from hk33)
            refine zp_store (L' := [(6, 0, (wk : Int)), (0, 2, (a : Int)), (1, 0, p1), (2, 0, p2), (3, 0, p3), (4, 0, p4), (5, 0, p5)]) (pc := 71) hx hb hnL (zd_X12_work1 (71, .istore 6, 2, 0, []) (List.mem_of_getElem? (i := 37) rfl)) rfl rfl rfl ?_
            refine zp_load (pc := 73) hx hb (zd_X12_work1 (73, .iload 6, 2, 0, []) (List.mem_of_getElem? (i := 38) rfl)) rfl (j := 0) rfl ?_
            refine zp_const (pc := 75) hx hb (zd_X12_work1 (75, .bipush 10, 2, 0, []) (List.mem_of_getElem? (i := 39) rfl)) rfl rfl ?_
            refine zp_icmp (pc := 77) (tgt := 83) hx hb (zd_X12_work1 (77, .if_icmp .ne 6, 3, 0, []) (List.mem_of_getElem? (i := 40) rfl)) rfl (fun (hc34 : ¬ (wk : Int) = 10) => ?_) (fun (hc34 : ¬ (¬ (wk : Int) = 10)) => ?_)
            · refine zp_const (pc := 83) hx hb (zd_X12_work1 (83, .bipush 39, 2, 0, []) (List.mem_of_getElem? (i := 43) rfl)) rfl rfl ?_
              refine zp_const (pc := 85) hx hb (zd_X12_work1 (85, .iconst 5, 1, 0, []) (List.mem_of_getElem? (i := 44) rfl)) rfl rfl ?_
              refine zp_load (pc := 86) hx hb (zd_X12_work1 (86, .iload 6, 2, 0, []) (List.mem_of_getElem? (i := 45) rfl)) rfl (j := 0) rfl ?_
              refine zp_mul (n := (5 * (wk : Int))) (pc := 88) hx hb (zd_X12_work1 (88, .imul, 1, 0, []) (List.mem_of_getElem? (i := 46) rfl)) (by omega) (zp_r0 (by omega) (by omega)) ?_
              refine zp_add (n := (5 * (wk : Int) + 39)) (pc := 89) hx hb (zd_X12_work1 (89, .iadd, 1, 0, []) (List.mem_of_getElem? (i := 47) rfl)) (by omega) (zp_r0 (by omega) (by omega)) ?_
              refine zp_store (L' := [(7, 0, (5 * (wk : Int) + 39)), (6, 0, (wk : Int)), (0, 2, (a : Int)), (1, 0, p1), (2, 0, p2), (3, 0, p3), (4, 0, p4), (5, 0, p5)]) (pc := 90) hx hb hnL (zd_X12_work1 (90, .istore 7, 2, 0, []) (List.mem_of_getElem? (i := 48) rfl)) rfl rfl rfl ?_
              refine zp_load (pc := 92) hx hb (zd_X12_work1 (92, .aload_n 0, 1, 0, []) (List.mem_of_getElem? (i := 49) rfl)) rfl (j := 2) rfl ?_
              refine zp_getf (n := (rw_ : Int)) (pc := 93) hx hb hE hw (zd_X12_work1 (93, .getfield 13, 3, 0, []) (List.mem_of_getElem? (i := 50) rfl)) (j := 21) rfl rfl rfl hp hrw_ ?_
              refine zp_load (pc := 96) hx hb (zd_X12_work1 (96, .iload 7, 2, 0, []) (List.mem_of_getElem? (i := 51) rfl)) rfl (j := 0) rfl ?_
              refine zp_load (pc := 98) hx hb (zd_X12_work1 (98, .iload_n 1, 1, 0, []) (List.mem_of_getElem? (i := 52) rfl)) rfl (j := 3) rfl ?_
              refine zp_iastR (j := (5 * wk + 39)) (pc := 99) hx hb hw heff (zd_X12_work1 (99, .iastore, 1, 0, []) (List.mem_of_getElem? (i := 53) rfl)) qrw_ (by omega) (by omega) (zr_st (lo := 0) (hi := 5) (zr_w0 wk (by omega)) (by omega) (by omega) (by omega) (by omega)) ⟨13072, rfl, zr_pm (lo := 39) (hi := 88) (by omega) (by omega) (by decide) (by decide)⟩ ?_
              refine zp_load (pc := 100) hx hb (zd_X12_work1 (100, .aload_n 0, 1, 0, []) (List.mem_of_getElem? (i := 54) rfl)) rfl (j := 2) rfl ?_
              refine zp_getf (n := (rw_ : Int)) (pc := 101) hx hb hE hw (zd_X12_work1 (101, .getfield 13, 3, 0, []) (List.mem_of_getElem? (i := 55) rfl)) (j := 21) rfl rfl rfl hp ((zp_set_ne (Or.inl (zp_pne hp qrw_ (by decide)))).trans (hrw_)) ?_
              refine zp_load (pc := 104) hx hb (zd_X12_work1 (104, .iload 7, 2, 0, []) (List.mem_of_getElem? (i := 56) rfl)) rfl (j := 0) rfl ?_
              refine zp_const (pc := 106) hx hb (zd_X12_work1 (106, .iconst 1, 1, 0, []) (List.mem_of_getElem? (i := 57) rfl)) rfl rfl ?_
              refine zp_add (n := (5 * (wk : Int) + 40)) (pc := 107) hx hb (zd_X12_work1 (107, .iadd, 1, 0, []) (List.mem_of_getElem? (i := 58) rfl)) (by omega) (zp_r0 (by omega) (by omega)) ?_
              refine zp_load (pc := 108) hx hb (zd_X12_work1 (108, .iload_n 2, 1, 0, []) (List.mem_of_getElem? (i := 59) rfl)) rfl (j := 4) rfl ?_
              refine zp_iastR (j := (5 * wk + 40)) (pc := 109) hx hb hw heff (zd_X12_work1 (109, .iastore, 1, 0, []) (List.mem_of_getElem? (i := 60) rfl)) qrw_ (by omega) (by omega) (zr_st (lo := (-2147483648)) (hi := 2147483647) (zr_w1 wk (by omega)) (by omega) (by omega) (by omega) (by omega)) ⟨13072, rfl, zr_pm (lo := 39) (hi := 88) (by omega) (by omega) (by decide) (by decide)⟩ ?_
              refine zp_load (pc := 110) hx hb (zd_X12_work1 (110, .aload_n 0, 1, 0, []) (List.mem_of_getElem? (i := 61) rfl)) rfl (j := 2) rfl ?_
              refine zp_getf (n := (rw_ : Int)) (pc := 111) hx hb hE hw (zd_X12_work1 (111, .getfield 13, 3, 0, []) (List.mem_of_getElem? (i := 62) rfl)) (j := 21) rfl rfl rfl hp ((zp_set_ne (Or.inl (zp_pne hp qrw_ (by decide)))).trans ((zp_set_ne (Or.inl (zp_pne hp qrw_ (by decide)))).trans (hrw_))) ?_
              refine zp_load (pc := 114) hx hb (zd_X12_work1 (114, .iload 7, 2, 0, []) (List.mem_of_getElem? (i := 63) rfl)) rfl (j := 0) rfl ?_
              refine zp_const (pc := 116) hx hb (zd_X12_work1 (116, .iconst 2, 1, 0, []) (List.mem_of_getElem? (i := 64) rfl)) rfl rfl ?_
              refine zp_add (n := (5 * (wk : Int) + 41)) (pc := 117) hx hb (zd_X12_work1 (117, .iadd, 1, 0, []) (List.mem_of_getElem? (i := 65) rfl)) (by omega) (zp_r0 (by omega) (by omega)) ?_
              refine zp_load (pc := 118) hx hb (zd_X12_work1 (118, .iload_n 3, 1, 0, []) (List.mem_of_getElem? (i := 66) rfl)) rfl (j := 5) rfl ?_
              refine zp_iastR (j := (5 * wk + 41)) (pc := 119) hx hb hw heff (zd_X12_work1 (119, .iastore, 1, 0, []) (List.mem_of_getElem? (i := 67) rfl)) qrw_ (by omega) (by omega) (zr_st (lo := (-2147483648)) (hi := 2147483647) (zr_w2 wk (by omega)) (by omega) (by omega) (by omega) (by omega)) ⟨13072, rfl, zr_pm (lo := 39) (hi := 88) (by omega) (by omega) (by decide) (by decide)⟩ ?_
              refine zp_load (pc := 120) hx hb (zd_X12_work1 (120, .aload_n 0, 1, 0, []) (List.mem_of_getElem? (i := 68) rfl)) rfl (j := 2) rfl ?_
              refine zp_getf (n := (rw_ : Int)) (pc := 121) hx hb hE hw (zd_X12_work1 (121, .getfield 13, 3, 0, []) (List.mem_of_getElem? (i := 69) rfl)) (j := 21) rfl rfl rfl hp ((zp_set_ne (Or.inl (zp_pne hp qrw_ (by decide)))).trans ((zp_set_ne (Or.inl (zp_pne hp qrw_ (by decide)))).trans ((zp_set_ne (Or.inl (zp_pne hp qrw_ (by decide)))).trans (hrw_)))) ?_
              refine zp_load (pc := 124) hx hb (zd_X12_work1 (124, .iload 7, 2, 0, []) (List.mem_of_getElem? (i := 70) rfl)) rfl (j := 0) rfl ?_
              refine zp_const (pc := 126) hx hb (zd_X12_work1 (126, .iconst 3, 1, 0, []) (List.mem_of_getElem? (i := 71) rfl)) rfl rfl ?_
              refine zp_add (n := (5 * (wk : Int) + 42)) (pc := 127) hx hb (zd_X12_work1 (127, .iadd, 1, 0, []) (List.mem_of_getElem? (i := 72) rfl)) (by omega) (zp_r0 (by omega) (by omega)) ?_
              refine zp_load (pc := 128) hx hb (zd_X12_work1 (128, .iload 4, 2, 0, []) (List.mem_of_getElem? (i := 73) rfl)) rfl (j := 6) rfl ?_
              refine zp_iastR (j := (5 * wk + 42)) (pc := 130) hx hb hw heff (zd_X12_work1 (130, .iastore, 1, 0, []) (List.mem_of_getElem? (i := 74) rfl)) qrw_ (by omega) (by omega) (zr_st (lo := (-2147483648)) (hi := 2147483647) (zr_w3 wk (by omega)) (by omega) (by omega) (by omega) (by omega)) ⟨13072, rfl, zr_pm (lo := 39) (hi := 88) (by omega) (by omega) (by decide) (by decide)⟩ ?_
              refine zp_load (pc := 131) hx hb (zd_X12_work1 (131, .aload_n 0, 1, 0, []) (List.mem_of_getElem? (i := 75) rfl)) rfl (j := 2) rfl ?_
              refine zp_getf (n := (rw_ : Int)) (pc := 132) hx hb hE hw (zd_X12_work1 (132, .getfield 13, 3, 0, []) (List.mem_of_getElem? (i := 76) rfl)) (j := 21) rfl rfl rfl hp ((zp_set_ne (Or.inl (zp_pne hp qrw_ (by decide)))).trans ((zp_set_ne (Or.inl (zp_pne hp qrw_ (by decide)))).trans ((zp_set_ne (Or.inl (zp_pne hp qrw_ (by decide)))).trans ((zp_set_ne (Or.inl (zp_pne hp qrw_ (by decide)))).trans (hrw_))))) ?_
              refine zp_load (pc := 135) hx hb (zd_X12_work1 (135, .iload 7, 2, 0, []) (List.mem_of_getElem? (i := 77) rfl)) rfl (j := 0) rfl ?_
              refine zp_const (pc := 137) hx hb (zd_X12_work1 (137, .iconst 4, 1, 0, []) (List.mem_of_getElem? (i := 78) rfl)) rfl rfl ?_
              refine zp_add (n := (5 * (wk : Int) + 43)) (pc := 138) hx hb (zd_X12_work1 (138, .iadd, 1, 0, []) (List.mem_of_getElem? (i := 79) rfl)) (by omega) (zp_r0 (by omega) (by omega)) ?_
              refine zp_load (pc := 139) hx hb (zd_X12_work1 (139, .iload 5, 2, 0, []) (List.mem_of_getElem? (i := 80) rfl)) rfl (j := 7) rfl ?_
              refine zp_iastR (j := (5 * wk + 43)) (pc := 141) hx hb hw heff (zd_X12_work1 (141, .iastore, 1, 0, []) (List.mem_of_getElem? (i := 81) rfl)) qrw_ (by omega) (by omega) (zr_st (lo := (-1)) (hi := 9) (zr_w4 wk (by omega)) (by omega) (by omega) (by omega) (by omega)) ⟨13072, rfl, zr_pm (lo := 39) (hi := 88) (by omega) (by omega) (by decide) (by decide)⟩ ?_
              refine zp_load (pc := 142) hx hb (zd_X12_work1 (142, .aload_n 0, 1, 0, []) (List.mem_of_getElem? (i := 82) rfl)) rfl (j := 2) rfl ?_
              refine zp_getf (n := (rw_ : Int)) (pc := 143) hx hb hE hw (zd_X12_work1 (143, .getfield 13, 3, 0, []) (List.mem_of_getElem? (i := 83) rfl)) (j := 21) rfl rfl rfl hp ((zp_set_ne (Or.inl (zp_pne hp qrw_ (by decide)))).trans ((zp_set_ne (Or.inl (zp_pne hp qrw_ (by decide)))).trans ((zp_set_ne (Or.inl (zp_pne hp qrw_ (by decide)))).trans ((zp_set_ne (Or.inl (zp_pne hp qrw_ (by decide)))).trans ((zp_set_ne (Or.inl (zp_pne hp qrw_ (by decide)))).trans (hrw_)))))) ?_
              refine zp_const (pc := 146) hx hb (zd_X12_work1 (146, .bipush 29, 2, 0, []) (List.mem_of_getElem? (i := 84) rfl)) rfl rfl ?_
              refine zp_load (pc := 148) hx hb (zd_X12_work1 (148, .iload 6, 2, 0, []) (List.mem_of_getElem? (i := 85) rfl)) rfl (j := 1) rfl ?_
              refine zp_add (n := ((wk : Int) + 29)) (pc := 150) hx hb (zd_X12_work1 (150, .iadd, 1, 0, []) (List.mem_of_getElem? (i := 86) rfl)) (by omega) (zp_r0 (by omega) (by omega)) ?_
              refine zp_const (pc := 151) hx hb (zd_X12_work1 (151, .iconst 0, 1, 0, []) (List.mem_of_getElem? (i := 87) rfl)) rfl rfl ?_
              refine zp_iastR (j := (wk + 29)) (pc := 152) hx hb hw heff (zd_X12_work1 (152, .iastore, 1, 0, []) (List.mem_of_getElem? (i := 88) rfl)) qrw_ (by omega) (by omega) (zr_st (lo := (-2147483648)) (hi := 2147483647) (zr_d wk (by omega)) (by omega) (by omega) (by omega) (by omega)) ⟨10462, rfl, zr_pm (lo := 29) (hi := 38) (by omega) (by omega) (by decide) (by decide)⟩ ?_
              refine zp_load (pc := 153) hx hb (zd_X12_work1 (153, .aload_n 0, 1, 0, []) (List.mem_of_getElem? (i := 89) rfl)) rfl (j := 2) rfl ?_
              refine zp_getf (n := (rw_ : Int)) (pc := 154) hx hb hE hw (zd_X12_work1 (154, .getfield 13, 3, 0, []) (List.mem_of_getElem? (i := 90) rfl)) (j := 21) rfl rfl rfl hp ((zp_set_ne (Or.inl (zp_pne hp qrw_ (by decide)))).trans ((zp_set_ne (Or.inl (zp_pne hp qrw_ (by decide)))).trans ((zp_set_ne (Or.inl (zp_pne hp qrw_ (by decide)))).trans ((zp_set_ne (Or.inl (zp_pne hp qrw_ (by decide)))).trans ((zp_set_ne (Or.inl (zp_pne hp qrw_ (by decide)))).trans ((zp_set_ne (Or.inl (zp_pne hp qrw_ (by decide)))).trans (hrw_))))))) ?_
              refine zp_const (pc := 157) hx hb (zd_X12_work1 (157, .iconst 1, 1, 0, []) (List.mem_of_getElem? (i := 91) rfl)) rfl rfl ?_
              refine zp_dup2 (pc := 158) hx hb (zd_X12_work1 (158, .dup2, 1, 0, []) (List.mem_of_getElem? (i := 92) rfl)) (show (0 : Nat) ≠ 1 by decide) (show (2 : Nat) ≠ 1 by decide) ?_
              refine zp_ialdT (j := 1) (v := (wk : Int)) (pc := 159) hx hb hw (zd_X12_work1 (159, .iaload, 1, 0, []) (List.mem_of_getElem? (i := 93) rfl)) zl_T59 rfl (zl_kd 1) qrw_ (by omega) (show 1 < 5580 by omega) ((zp_set_ne (Or.inr (by omega))).trans ((zp_set_ne (Or.inr (by omega))).trans ((zp_set_ne (Or.inr (by omega))).trans ((zp_set_ne (Or.inr (by omega))).trans ((zp_set_ne (Or.inr (by omega))).trans ((zp_set_ne (Or.inr (by omega))).trans (hwk))))))) (fun hk35 => ?_)
              have hk35b := zp_int (show zk_ok u.1 (0, 0, 0, 10) (wk : Int) from hk35)
              refine zp_const (pc := 160) hx hb (zd_X12_work1 (160, .iconst 1, 1, 0, []) (List.mem_of_getElem? (i := 94) rfl)) rfl rfl ?_
              refine zp_add (n := ((wk : Int) + 1)) (pc := 161) hx hb (zd_X12_work1 (161, .iadd, 1, 0, []) (List.mem_of_getElem? (i := 95) rfl)) (by omega) (zp_r0 (by omega) (by omega)) ?_
              refine zp_iastR (j := 1) (pc := 162) hx hb hw heff (zd_X12_work1 (162, .iastore, 1, 0, []) (List.mem_of_getElem? (i := 96) rfl)) qrw_ (by omega) (by omega) (zr_st (lo := 0) (hi := 10) (⟨rfl, rfl, rfl⟩) (by omega) (by omega) (by omega) (by omega)) ⟨3257, rfl, zr_pm (lo := 1) (hi := 1) (by omega) (by omega) (by decide) (by decide)⟩ ?_
              refine zp_load (pc := 163) hx hb (zd_X12_work1 (163, .iload 6, 2, 0, []) (List.mem_of_getElem? (i := 97) rfl)) rfl (j := 1) rfl ?_
              have ez0 : (zp_set (zp_set (zp_set (zp_set (zp_set (zp_set (zp_set (zp_n u.2.1) rw_ (2000 + (5 * wk + 39)) p1) rw_ (2000 + (5 * wk + 40)) p2) rw_ (2000 + (5 * wk + 41)) p3) rw_ (2000 + (5 * wk + 42)) p4) rw_ (2000 + (5 * wk + 43)) p5) rw_ (2000 + (wk + 29)) 0) rw_ (2000 + 1) ((wk : Int) + 1)) rw_ (2000 + 1) = ((wk : Int) + 1) := zp_set_self
              refine zp_iret (pc := 165) (n := (wk : Int)) hx hb hE hQ hU5 rfl (by decide) (zd_X12_work1 (165, .ireturn, 1, 0, []) (List.mem_of_getElem? (i := 98) rfl)) (j := 0) rfl (zp_o0 (by omega) (by omega) (by omega) (by omega)) ?_
              rw [hps]
              refine ⟨rfl, ?_⟩
              show (¬ (1 ≤ p2 ∧ p2 ≤ 600 ∧ 0 ≤ p3 ∧ p3 ≤ 23 ∧ 1 ≤ p4 ∧ p4 ≤ 99) → (wk : Int) = -1 ∧ (zp_set (zp_set (zp_set (zp_set (zp_set (zp_set (zp_set (zp_n u.2.1) rw_ (2000 + (5 * wk + 39)) p1) rw_ (2000 + (5 * wk + 40)) p2) rw_ (2000 + (5 * wk + 41)) p3) rw_ (2000 + (5 * wk + 42)) p4) rw_ (2000 + (5 * wk + 43)) p5) rw_ (2000 + (wk + 29)) 0) rw_ (2000 + 1) ((wk : Int) + 1)) (zp_n u.2.1 a 3).toNat (2000 + 1) = zp_n u.2.1 (zp_n u.2.1 a 3).toNat (2000 + 1)) ∧ ((1 ≤ p2 ∧ p2 ≤ 600 ∧ 0 ≤ p3 ∧ p3 ≤ 23 ∧ 1 ≤ p4 ∧ p4 ≤ 99) ∧ ¬ (0 ≤ p1 ∧ p1 < zp_n u.2.1 (zp_n u.2.1 a 3).toNat (2000 + 0) ∧ (p5 = -1 ∨ (0 ≤ p5 ∧ p5 < zp_n u.2.1 (zp_n u.2.1 a 3).toNat (2000 + 1)))) → (wk : Int) = -2 ∧ (zp_set (zp_set (zp_set (zp_set (zp_set (zp_set (zp_set (zp_n u.2.1) rw_ (2000 + (5 * wk + 39)) p1) rw_ (2000 + (5 * wk + 40)) p2) rw_ (2000 + (5 * wk + 41)) p3) rw_ (2000 + (5 * wk + 42)) p4) rw_ (2000 + (5 * wk + 43)) p5) rw_ (2000 + (wk + 29)) 0) rw_ (2000 + 1) ((wk : Int) + 1)) (zp_n u.2.1 a 3).toNat (2000 + 1) = zp_n u.2.1 (zp_n u.2.1 a 3).toNat (2000 + 1)) ∧ ((1 ≤ p2 ∧ p2 ≤ 600 ∧ 0 ≤ p3 ∧ p3 ≤ 23 ∧ 1 ≤ p4 ∧ p4 ≤ 99) ∧ (0 ≤ p1 ∧ p1 < zp_n u.2.1 (zp_n u.2.1 a 3).toNat (2000 + 0) ∧ (p5 = -1 ∨ (0 ≤ p5 ∧ p5 < zp_n u.2.1 (zp_n u.2.1 a 3).toNat (2000 + 1)))) ∧ 10 ≤ zp_n u.2.1 (zp_n u.2.1 a 3).toNat (2000 + 1) → (wk : Int) = -5 ∧ (zp_set (zp_set (zp_set (zp_set (zp_set (zp_set (zp_set (zp_n u.2.1) rw_ (2000 + (5 * wk + 39)) p1) rw_ (2000 + (5 * wk + 40)) p2) rw_ (2000 + (5 * wk + 41)) p3) rw_ (2000 + (5 * wk + 42)) p4) rw_ (2000 + (5 * wk + 43)) p5) rw_ (2000 + (wk + 29)) 0) rw_ (2000 + 1) ((wk : Int) + 1)) (zp_n u.2.1 a 3).toNat (2000 + 1) = zp_n u.2.1 (zp_n u.2.1 a 3).toNat (2000 + 1)) ∧ ((1 ≤ p2 ∧ p2 ≤ 600 ∧ 0 ≤ p3 ∧ p3 ≤ 23 ∧ 1 ≤ p4 ∧ p4 ≤ 99) ∧ (0 ≤ p1 ∧ p1 < zp_n u.2.1 (zp_n u.2.1 a 3).toNat (2000 + 0) ∧ (p5 = -1 ∨ (0 ≤ p5 ∧ p5 < zp_n u.2.1 (zp_n u.2.1 a 3).toNat (2000 + 1)))) ∧ zp_n u.2.1 (zp_n u.2.1 a 3).toNat (2000 + 1) < 10 → (wk : Int) = zp_n u.2.1 (zp_n u.2.1 a 3).toNat (2000 + 1) ∧ (zp_set (zp_set (zp_set (zp_set (zp_set (zp_set (zp_set (zp_n u.2.1) rw_ (2000 + (5 * wk + 39)) p1) rw_ (2000 + (5 * wk + 40)) p2) rw_ (2000 + (5 * wk + 41)) p3) rw_ (2000 + (5 * wk + 42)) p4) rw_ (2000 + (5 * wk + 43)) p5) rw_ (2000 + (wk + 29)) 0) rw_ (2000 + 1) ((wk : Int) + 1)) (zp_n u.2.1 a 3).toNat (2000 + 1) = zp_n u.2.1 (zp_n u.2.1 a 3).toNat (2000 + 1) + 1)
              rw [hrt]
              omega
            · refine zp_const (pc := 80) hx hb (zd_X12_work1 (80, .bipush (-5), 2, 0, []) (List.mem_of_getElem? (i := 41) rfl)) rfl rfl ?_
              have ez0 : (zp_n u.2.1) rw_ (2000 + 1) = (wk : Int) := hwk
              refine zp_iret (pc := 82) (n := (-5)) hx hb hE hQ hU5 rfl (by decide) (zd_X12_work1 (82, .ireturn, 1, 0, []) (List.mem_of_getElem? (i := 42) rfl)) (j := 0) rfl (zp_o0 (by omega) (by omega) (by omega) (by omega)) ?_
              rw [hps]
              refine ⟨rfl, ?_⟩
              show (¬ (1 ≤ p2 ∧ p2 ≤ 600 ∧ 0 ≤ p3 ∧ p3 ≤ 23 ∧ 1 ≤ p4 ∧ p4 ≤ 99) → (-5) = -1 ∧ (zp_n u.2.1) (zp_n u.2.1 a 3).toNat (2000 + 1) = zp_n u.2.1 (zp_n u.2.1 a 3).toNat (2000 + 1)) ∧ ((1 ≤ p2 ∧ p2 ≤ 600 ∧ 0 ≤ p3 ∧ p3 ≤ 23 ∧ 1 ≤ p4 ∧ p4 ≤ 99) ∧ ¬ (0 ≤ p1 ∧ p1 < zp_n u.2.1 (zp_n u.2.1 a 3).toNat (2000 + 0) ∧ (p5 = -1 ∨ (0 ≤ p5 ∧ p5 < zp_n u.2.1 (zp_n u.2.1 a 3).toNat (2000 + 1)))) → (-5) = -2 ∧ (zp_n u.2.1) (zp_n u.2.1 a 3).toNat (2000 + 1) = zp_n u.2.1 (zp_n u.2.1 a 3).toNat (2000 + 1)) ∧ ((1 ≤ p2 ∧ p2 ≤ 600 ∧ 0 ≤ p3 ∧ p3 ≤ 23 ∧ 1 ≤ p4 ∧ p4 ≤ 99) ∧ (0 ≤ p1 ∧ p1 < zp_n u.2.1 (zp_n u.2.1 a 3).toNat (2000 + 0) ∧ (p5 = -1 ∨ (0 ≤ p5 ∧ p5 < zp_n u.2.1 (zp_n u.2.1 a 3).toNat (2000 + 1)))) ∧ 10 ≤ zp_n u.2.1 (zp_n u.2.1 a 3).toNat (2000 + 1) → (-5) = -5 ∧ (zp_n u.2.1) (zp_n u.2.1 a 3).toNat (2000 + 1) = zp_n u.2.1 (zp_n u.2.1 a 3).toNat (2000 + 1)) ∧ ((1 ≤ p2 ∧ p2 ≤ 600 ∧ 0 ≤ p3 ∧ p3 ≤ 23 ∧ 1 ≤ p4 ∧ p4 ≤ 99) ∧ (0 ≤ p1 ∧ p1 < zp_n u.2.1 (zp_n u.2.1 a 3).toNat (2000 + 0) ∧ (p5 = -1 ∨ (0 ≤ p5 ∧ p5 < zp_n u.2.1 (zp_n u.2.1 a 3).toNat (2000 + 1)))) ∧ zp_n u.2.1 (zp_n u.2.1 a 3).toNat (2000 + 1) < 10 → (-5) = zp_n u.2.1 (zp_n u.2.1 a 3).toNat (2000 + 1) ∧ (zp_n u.2.1) (zp_n u.2.1 a 3).toNat (2000 + 1) = zp_n u.2.1 (zp_n u.2.1 a 3).toNat (2000 + 1) + 1)
              rw [hrt]
              omega
          · refine zp_load (pc := 53) hx hb (zd_X12_work1 (53, .aload_n 0, 1, 0, []) (List.mem_of_getElem? (i := 27) rfl)) rfl (j := 0) rfl ?_
            refine zp_load (pc := 54) hx hb (zd_X12_work1 (54, .iload 5, 2, 0, []) (List.mem_of_getElem? (i := 28) rfl)) rfl (j := 5) rfl ?_
            have hvh13 : (zp_n u.2.1) rw_ (2000 + 1) = (wk : Int) := hwk
            have hwh13 : (zp_n u.2.1) a 3 = (rw_ : Int) := hrw_
            refine zp_call (pc := 56) (how := 0) (idx := 217) (mi := 200) (S := []) hx hb hE hw heff hrm (zX_miw hW) rfl (j := 10) rfl rfl (by decide +kernel) (zd_X12_work1 (56, .invokevirtual 217, 3, 0, []) (List.mem_of_getElem? (i := 29) rfl)) [(a : Int), p5] rfl ⟨zp_o2 hp, zp_o0 (by omega) (by omega) (by omega) (by omega), trivial⟩ (Nat.le_of_ble_eq_true rfl) trivial (fun al hal rnh13 Ph13 Gh13 hexth13 hfrh13 hokh13 hcsh13 hpsih13 => ?_)
            obtain rfl := List.mem_singleton.mp hal
            have hrh13 := zp_int (hokh13 _ rfl).1
            obtain ⟨hPeh13, hGeh13, hth13⟩ := hpsih13
            have hth13 : rnh13 = 1 ↔ 0 ≤ p5 ∧ p5 < (zp_n u.2.1) ((zp_n u.2.1) a 3).toNat (2000 + 1) := hth13
            rw [hPeh13, hGeh13]
            rw [hwh13, show ((rw_ : Int)).toNat = rw_ from rfl, hvh13] at hth13
            refine zp_if (pc := 59) (tgt := 65) hx hb (zd_X12_work1 (59, .ifCond .ne 6, 3, 0, []) (List.mem_of_getElem? (i := 30) rfl)) rfl (fun (hc36 : ¬ rnh13 = 0) => ?_) (fun (hc36 : ¬ (¬ rnh13 = 0)) => ?_)
            · refine zp_load (pc := 65) hx hb (zd_X12_work1 (65, .aload_n 0, 1, 0, []) (List.mem_of_getElem? (i := 33) rfl)) rfl (j := 0) rfl ?_
              refine zp_getf (n := (rw_ : Int)) (pc := 66) hx hb hE hw (zd_X12_work1 (66, .getfield 13, 3, 0, []) (List.mem_of_getElem? (i := 34) rfl)) (j := 21) rfl rfl rfl hp hrw_ ?_
              refine zp_const (pc := 69) hx hb (zd_X12_work1 (69, .iconst 1, 1, 0, []) (List.mem_of_getElem? (i := 35) rfl)) rfl rfl ?_
              refine zp_ialdT (j := 1) (v := (wk : Int)) (pc := 70) hx hb hw (zd_X12_work1 (70, .iaload, 1, 0, []) (List.mem_of_getElem? (i := 36) rfl)) zl_T59 rfl (zl_kd 1) qrw_ (by omega) (show 1 < 5580 by omega) hwk (fun hk37 => ?_)
              have hk37b := zp_int (show zk_ok u.1 (0, 0, 0, 10) (wk : Int) from hk37)
              refine zp_store (L' := [(6, 0, (wk : Int)), (0, 2, (a : Int)), (1, 0, p1), (2, 0, p2), (3, 0, p3), (4, 0, p4), (5, 0, p5)]) (pc := 71) hx hb hnL (zd_X12_work1 (71, .istore 6, 2, 0, []) (List.mem_of_getElem? (i := 37) rfl)) rfl rfl rfl ?_
              refine zp_load (pc := 73) hx hb (zd_X12_work1 (73, .iload 6, 2, 0, []) (List.mem_of_getElem? (i := 38) rfl)) rfl (j := 0) rfl ?_
              refine zp_const (pc := 75) hx hb (zd_X12_work1 (75, .bipush 10, 2, 0, []) (List.mem_of_getElem? (i := 39) rfl)) rfl rfl ?_
              refine zp_icmp (pc := 77) (tgt := 83) hx hb (zd_X12_work1 (77, .if_icmp .ne 6, 3, 0, []) (List.mem_of_getElem? (i := 40) rfl)) rfl (fun (hc38 : ¬ (wk : Int) = 10) => ?_) (fun (hc38 : ¬ (¬ (wk : Int) = 10)) => ?_)
              · refine zp_const (pc := 83) hx hb (zd_X12_work1 (83, .bipush 39, 2, 0, []) (List.mem_of_getElem? (i := 43) rfl)) rfl rfl ?_
                refine zp_const (pc := 85) hx hb (zd_X12_work1 (85, .iconst 5, 1, 0, []) (List.mem_of_getElem? (i := 44) rfl)) rfl rfl ?_
                refine zp_load (pc := 86) hx hb (zd_X12_work1 (86, .iload 6, 2, 0, []) (List.mem_of_getElem? (i := 45) rfl)) rfl (j := 0) rfl ?_
                refine zp_mul (n := (5 * (wk : Int))) (pc := 88) hx hb (zd_X12_work1 (88, .imul, 1, 0, []) (List.mem_of_getElem? (i := 46) rfl)) (by omega) (zp_r0 (by omega) (by omega)) ?_
                refine zp_add (n := (5 * (wk : Int) + 39)) (pc := 89) hx hb (zd_X12_work1 (89, .iadd, 1, 0, []) (List.mem_of_getElem? (i := 47) rfl)) (by omega) (zp_r0 (by omega) (by omega)) ?_
                refine zp_store (L' := [(7, 0, (5 * (wk : Int) + 39)), (6, 0, (wk : Int)), (0, 2, (a : Int)), (1, 0, p1), (2, 0, p2), (3, 0, p3), (4, 0, p4), (5, 0, p5)]) (pc := 90) hx hb hnL (zd_X12_work1 (90, .istore 7, 2, 0, []) (List.mem_of_getElem? (i := 48) rfl)) rfl rfl rfl ?_
                refine zp_load (pc := 92) hx hb (zd_X12_work1 (92, .aload_n 0, 1, 0, []) (List.mem_of_getElem? (i := 49) rfl)) rfl (j := 2) rfl ?_
                refine zp_getf (n := (rw_ : Int)) (pc := 93) hx hb hE hw (zd_X12_work1 (93, .getfield 13, 3, 0, []) (List.mem_of_getElem? (i := 50) rfl)) (j := 21) rfl rfl rfl hp hrw_ ?_
                refine zp_load (pc := 96) hx hb (zd_X12_work1 (96, .iload 7, 2, 0, []) (List.mem_of_getElem? (i := 51) rfl)) rfl (j := 0) rfl ?_
                refine zp_load (pc := 98) hx hb (zd_X12_work1 (98, .iload_n 1, 1, 0, []) (List.mem_of_getElem? (i := 52) rfl)) rfl (j := 3) rfl ?_
                refine zp_iastR (j := (5 * wk + 39)) (pc := 99) hx hb hw heff (zd_X12_work1 (99, .iastore, 1, 0, []) (List.mem_of_getElem? (i := 53) rfl)) qrw_ (by omega) (by omega) (zr_st (lo := 0) (hi := 5) (zr_w0 wk (by omega)) (by omega) (by omega) (by omega) (by omega)) ⟨13072, rfl, zr_pm (lo := 39) (hi := 88) (by omega) (by omega) (by decide) (by decide)⟩ ?_
                refine zp_load (pc := 100) hx hb (zd_X12_work1 (100, .aload_n 0, 1, 0, []) (List.mem_of_getElem? (i := 54) rfl)) rfl (j := 2) rfl ?_
                refine zp_getf (n := (rw_ : Int)) (pc := 101) hx hb hE hw (zd_X12_work1 (101, .getfield 13, 3, 0, []) (List.mem_of_getElem? (i := 55) rfl)) (j := 21) rfl rfl rfl hp ((zp_set_ne (Or.inl (zp_pne hp qrw_ (by decide)))).trans (hrw_)) ?_
                refine zp_load (pc := 104) hx hb (zd_X12_work1 (104, .iload 7, 2, 0, []) (List.mem_of_getElem? (i := 56) rfl)) rfl (j := 0) rfl ?_
                refine zp_const (pc := 106) hx hb (zd_X12_work1 (106, .iconst 1, 1, 0, []) (List.mem_of_getElem? (i := 57) rfl)) rfl rfl ?_
                refine zp_add (n := (5 * (wk : Int) + 40)) (pc := 107) hx hb (zd_X12_work1 (107, .iadd, 1, 0, []) (List.mem_of_getElem? (i := 58) rfl)) (by omega) (zp_r0 (by omega) (by omega)) ?_
                refine zp_load (pc := 108) hx hb (zd_X12_work1 (108, .iload_n 2, 1, 0, []) (List.mem_of_getElem? (i := 59) rfl)) rfl (j := 4) rfl ?_
                refine zp_iastR (j := (5 * wk + 40)) (pc := 109) hx hb hw heff (zd_X12_work1 (109, .iastore, 1, 0, []) (List.mem_of_getElem? (i := 60) rfl)) qrw_ (by omega) (by omega) (zr_st (lo := (-2147483648)) (hi := 2147483647) (zr_w1 wk (by omega)) (by omega) (by omega) (by omega) (by omega)) ⟨13072, rfl, zr_pm (lo := 39) (hi := 88) (by omega) (by omega) (by decide) (by decide)⟩ ?_
                refine zp_load (pc := 110) hx hb (zd_X12_work1 (110, .aload_n 0, 1, 0, []) (List.mem_of_getElem? (i := 61) rfl)) rfl (j := 2) rfl ?_
                refine zp_getf (n := (rw_ : Int)) (pc := 111) hx hb hE hw (zd_X12_work1 (111, .getfield 13, 3, 0, []) (List.mem_of_getElem? (i := 62) rfl)) (j := 21) rfl rfl rfl hp ((zp_set_ne (Or.inl (zp_pne hp qrw_ (by decide)))).trans ((zp_set_ne (Or.inl (zp_pne hp qrw_ (by decide)))).trans (hrw_))) ?_
                refine zp_load (pc := 114) hx hb (zd_X12_work1 (114, .iload 7, 2, 0, []) (List.mem_of_getElem? (i := 63) rfl)) rfl (j := 0) rfl ?_
                refine zp_const (pc := 116) hx hb (zd_X12_work1 (116, .iconst 2, 1, 0, []) (List.mem_of_getElem? (i := 64) rfl)) rfl rfl ?_
                refine zp_add (n := (5 * (wk : Int) + 41)) (pc := 117) hx hb (zd_X12_work1 (117, .iadd, 1, 0, []) (List.mem_of_getElem? (i := 65) rfl)) (by omega) (zp_r0 (by omega) (by omega)) ?_
                refine zp_load (pc := 118) hx hb (zd_X12_work1 (118, .iload_n 3, 1, 0, []) (List.mem_of_getElem? (i := 66) rfl)) rfl (j := 5) rfl ?_
                refine zp_iastR (j := (5 * wk + 41)) (pc := 119) hx hb hw heff (zd_X12_work1 (119, .iastore, 1, 0, []) (List.mem_of_getElem? (i := 67) rfl)) qrw_ (by omega) (by omega) (zr_st (lo := (-2147483648)) (hi := 2147483647) (zr_w2 wk (by omega)) (by omega) (by omega) (by omega) (by omega)) ⟨13072, rfl, zr_pm (lo := 39) (hi := 88) (by omega) (by omega) (by decide) (by decide)⟩ ?_
                refine zp_load (pc := 120) hx hb (zd_X12_work1 (120, .aload_n 0, 1, 0, []) (List.mem_of_getElem? (i := 68) rfl)) rfl (j := 2) rfl ?_
                refine zp_getf (n := (rw_ : Int)) (pc := 121) hx hb hE hw (zd_X12_work1 (121, .getfield 13, 3, 0, []) (List.mem_of_getElem? (i := 69) rfl)) (j := 21) rfl rfl rfl hp ((zp_set_ne (Or.inl (zp_pne hp qrw_ (by decide)))).trans ((zp_set_ne (Or.inl (zp_pne hp qrw_ (by decide)))).trans ((zp_set_ne (Or.inl (zp_pne hp qrw_ (by decide)))).trans (hrw_)))) ?_
                refine zp_load (pc := 124) hx hb (zd_X12_work1 (124, .iload 7, 2, 0, []) (List.mem_of_getElem? (i := 70) rfl)) rfl (j := 0) rfl ?_
                refine zp_const (pc := 126) hx hb (zd_X12_work1 (126, .iconst 3, 1, 0, []) (List.mem_of_getElem? (i := 71) rfl)) rfl rfl ?_
                refine zp_add (n := (5 * (wk : Int) + 42)) (pc := 127) hx hb (zd_X12_work1 (127, .iadd, 1, 0, []) (List.mem_of_getElem? (i := 72) rfl)) (by omega) (zp_r0 (by omega) (by omega)) ?_
                refine zp_load (pc := 128) hx hb (zd_X12_work1 (128, .iload 4, 2, 0, []) (List.mem_of_getElem? (i := 73) rfl)) rfl (j := 6) rfl ?_
                refine zp_iastR (j := (5 * wk + 42)) (pc := 130) hx hb hw heff (zd_X12_work1 (130, .iastore, 1, 0, []) (List.mem_of_getElem? (i := 74) rfl)) qrw_ (by omega) (by omega) (zr_st (lo := (-2147483648)) (hi := 2147483647) (zr_w3 wk (by omega)) (by omega) (by omega) (by omega) (by omega)) ⟨13072, rfl, zr_pm (lo := 39) (hi := 88) (by omega) (by omega) (by decide) (by decide)⟩ ?_
                refine zp_load (pc := 131) hx hb (zd_X12_work1 (131, .aload_n 0, 1, 0, []) (List.mem_of_getElem? (i := 75) rfl)) rfl (j := 2) rfl ?_
                refine zp_getf (n := (rw_ : Int)) (pc := 132) hx hb hE hw (zd_X12_work1 (132, .getfield 13, 3, 0, []) (List.mem_of_getElem? (i := 76) rfl)) (j := 21) rfl rfl rfl hp ((zp_set_ne (Or.inl (zp_pne hp qrw_ (by decide)))).trans ((zp_set_ne (Or.inl (zp_pne hp qrw_ (by decide)))).trans ((zp_set_ne (Or.inl (zp_pne hp qrw_ (by decide)))).trans ((zp_set_ne (Or.inl (zp_pne hp qrw_ (by decide)))).trans (hrw_))))) ?_
                refine zp_load (pc := 135) hx hb (zd_X12_work1 (135, .iload 7, 2, 0, []) (List.mem_of_getElem? (i := 77) rfl)) rfl (j := 0) rfl ?_
                refine zp_const (pc := 137) hx hb (zd_X12_work1 (137, .iconst 4, 1, 0, []) (List.mem_of_getElem? (i := 78) rfl)) rfl rfl ?_
                refine zp_add (n := (5 * (wk : Int) + 43)) (pc := 138) hx hb (zd_X12_work1 (138, .iadd, 1, 0, []) (List.mem_of_getElem? (i := 79) rfl)) (by omega) (zp_r0 (by omega) (by omega)) ?_
                refine zp_load (pc := 139) hx hb (zd_X12_work1 (139, .iload 5, 2, 0, []) (List.mem_of_getElem? (i := 80) rfl)) rfl (j := 7) rfl ?_
                refine zp_iastR (j := (5 * wk + 43)) (pc := 141) hx hb hw heff (zd_X12_work1 (141, .iastore, 1, 0, []) (List.mem_of_getElem? (i := 81) rfl)) qrw_ (by omega) (by omega) (zr_st (lo := (-1)) (hi := 9) (zr_w4 wk (by omega)) (by omega) (by omega) (by omega) (by omega)) ⟨13072, rfl, zr_pm (lo := 39) (hi := 88) (by omega) (by omega) (by decide) (by decide)⟩ ?_
                refine zp_load (pc := 142) hx hb (zd_X12_work1 (142, .aload_n 0, 1, 0, []) (List.mem_of_getElem? (i := 82) rfl)) rfl (j := 2) rfl ?_
                refine zp_getf (n := (rw_ : Int)) (pc := 143) hx hb hE hw (zd_X12_work1 (143, .getfield 13, 3, 0, []) (List.mem_of_getElem? (i := 83) rfl)) (j := 21) rfl rfl rfl hp ((zp_set_ne (Or.inl (zp_pne hp qrw_ (by decide)))).trans ((zp_set_ne (Or.inl (zp_pne hp qrw_ (by decide)))).trans ((zp_set_ne (Or.inl (zp_pne hp qrw_ (by decide)))).trans ((zp_set_ne (Or.inl (zp_pne hp qrw_ (by decide)))).trans ((zp_set_ne (Or.inl (zp_pne hp qrw_ (by decide)))).trans (hrw_)))))) ?_
                refine zp_const (pc := 146) hx hb (zd_X12_work1 (146, .bipush 29, 2, 0, []) (List.mem_of_getElem? (i := 84) rfl)) rfl rfl ?_
                refine zp_load (pc := 148) hx hb (zd_X12_work1 (148, .iload 6, 2, 0, []) (List.mem_of_getElem? (i := 85) rfl)) rfl (j := 1) rfl ?_
                refine zp_add (n := ((wk : Int) + 29)) (pc := 150) hx hb (zd_X12_work1 (150, .iadd, 1, 0, []) (List.mem_of_getElem? (i := 86) rfl)) (by omega) (zp_r0 (by omega) (by omega)) ?_
                refine zp_const (pc := 151) hx hb (zd_X12_work1 (151, .iconst 0, 1, 0, []) (List.mem_of_getElem? (i := 87) rfl)) rfl rfl ?_
                refine zp_iastR (j := (wk + 29)) (pc := 152) hx hb hw heff (zd_X12_work1 (152, .iastore, 1, 0, []) (List.mem_of_getElem? (i := 88) rfl)) qrw_ (by omega) (by omega) (zr_st (lo := (-2147483648)) (hi := 2147483647) (zr_d wk (by omega)) (by omega) (by omega) (by omega) (by omega)) ⟨10462, rfl, zr_pm (lo := 29) (hi := 38) (by omega) (by omega) (by decide) (by decide)⟩ ?_
                refine zp_load (pc := 153) hx hb (zd_X12_work1 (153, .aload_n 0, 1, 0, []) (List.mem_of_getElem? (i := 89) rfl)) rfl (j := 2) rfl ?_
                refine zp_getf (n := (rw_ : Int)) (pc := 154) hx hb hE hw (zd_X12_work1 (154, .getfield 13, 3, 0, []) (List.mem_of_getElem? (i := 90) rfl)) (j := 21) rfl rfl rfl hp ((zp_set_ne (Or.inl (zp_pne hp qrw_ (by decide)))).trans ((zp_set_ne (Or.inl (zp_pne hp qrw_ (by decide)))).trans ((zp_set_ne (Or.inl (zp_pne hp qrw_ (by decide)))).trans ((zp_set_ne (Or.inl (zp_pne hp qrw_ (by decide)))).trans ((zp_set_ne (Or.inl (zp_pne hp qrw_ (by decide)))).trans ((zp_set_ne (Or.inl (zp_pne hp qrw_ (by decide)))).trans (hrw_))))))) ?_
                refine zp_const (pc := 157) hx hb (zd_X12_work1 (157, .iconst 1, 1, 0, []) (List.mem_of_getElem? (i := 91) rfl)) rfl rfl ?_
                refine zp_dup2 (pc := 158) hx hb (zd_X12_work1 (158, .dup2, 1, 0, []) (List.mem_of_getElem? (i := 92) rfl)) (show (0 : Nat) ≠ 1 by decide) (show (2 : Nat) ≠ 1 by decide) ?_
                refine zp_ialdT (j := 1) (v := (wk : Int)) (pc := 159) hx hb hw (zd_X12_work1 (159, .iaload, 1, 0, []) (List.mem_of_getElem? (i := 93) rfl)) zl_T59 rfl (zl_kd 1) qrw_ (by omega) (show 1 < 5580 by omega) ((zp_set_ne (Or.inr (by omega))).trans ((zp_set_ne (Or.inr (by omega))).trans ((zp_set_ne (Or.inr (by omega))).trans ((zp_set_ne (Or.inr (by omega))).trans ((zp_set_ne (Or.inr (by omega))).trans ((zp_set_ne (Or.inr (by omega))).trans (hwk))))))) (fun hk39 => ?_)
                have hk39b := zp_int (show zk_ok u.1 (0, 0, 0, 10) (wk : Int) from hk39)
                refine zp_const (pc := 160) hx hb (zd_X12_work1 (160, .iconst 1, 1, 0, []) (List.mem_of_getElem? (i := 94) rfl)) rfl rfl ?_
                refine zp_add (n := ((wk : Int) + 1)) (pc := 161) hx hb (zd_X12_work1 (161, .iadd, 1, 0, []) (List.mem_of_getElem? (i := 95) rfl)) (by omega) (zp_r0 (by omega) (by omega)) ?_
                refine zp_iastR (j := 1) (pc := 162) hx hb hw heff (zd_X12_work1 (162, .iastore, 1, 0, []) (List.mem_of_getElem? (i := 96) rfl)) qrw_ (by omega) (by omega) (zr_st (lo := 0) (hi := 10) (⟨rfl, rfl, rfl⟩) (by omega) (by omega) (by omega) (by omega)) ⟨3257, rfl, zr_pm (lo := 1) (hi := 1) (by omega) (by omega) (by decide) (by decide)⟩ ?_
                refine zp_load (pc := 163) hx hb (zd_X12_work1 (163, .iload 6, 2, 0, []) (List.mem_of_getElem? (i := 97) rfl)) rfl (j := 1) rfl ?_
                have ez0 : (zp_set (zp_set (zp_set (zp_set (zp_set (zp_set (zp_set (zp_n u.2.1) rw_ (2000 + (5 * wk + 39)) p1) rw_ (2000 + (5 * wk + 40)) p2) rw_ (2000 + (5 * wk + 41)) p3) rw_ (2000 + (5 * wk + 42)) p4) rw_ (2000 + (5 * wk + 43)) p5) rw_ (2000 + (wk + 29)) 0) rw_ (2000 + 1) ((wk : Int) + 1)) rw_ (2000 + 1) = ((wk : Int) + 1) := zp_set_self
                refine zp_iret (pc := 165) (n := (wk : Int)) hx hb hE hQ hU5 rfl (by decide) (zd_X12_work1 (165, .ireturn, 1, 0, []) (List.mem_of_getElem? (i := 98) rfl)) (j := 0) rfl (zp_o0 (by omega) (by omega) (by omega) (by omega)) ?_
                rw [hps]
                refine ⟨rfl, ?_⟩
                show (¬ (1 ≤ p2 ∧ p2 ≤ 600 ∧ 0 ≤ p3 ∧ p3 ≤ 23 ∧ 1 ≤ p4 ∧ p4 ≤ 99) → (wk : Int) = -1 ∧ (zp_set (zp_set (zp_set (zp_set (zp_set (zp_set (zp_set (zp_n u.2.1) rw_ (2000 + (5 * wk + 39)) p1) rw_ (2000 + (5 * wk + 40)) p2) rw_ (2000 + (5 * wk + 41)) p3) rw_ (2000 + (5 * wk + 42)) p4) rw_ (2000 + (5 * wk + 43)) p5) rw_ (2000 + (wk + 29)) 0) rw_ (2000 + 1) ((wk : Int) + 1)) (zp_n u.2.1 a 3).toNat (2000 + 1) = zp_n u.2.1 (zp_n u.2.1 a 3).toNat (2000 + 1)) ∧ ((1 ≤ p2 ∧ p2 ≤ 600 ∧ 0 ≤ p3 ∧ p3 ≤ 23 ∧ 1 ≤ p4 ∧ p4 ≤ 99) ∧ ¬ (0 ≤ p1 ∧ p1 < zp_n u.2.1 (zp_n u.2.1 a 3).toNat (2000 + 0) ∧ (p5 = -1 ∨ (0 ≤ p5 ∧ p5 < zp_n u.2.1 (zp_n u.2.1 a 3).toNat (2000 + 1)))) → (wk : Int) = -2 ∧ (zp_set (zp_set (zp_set (zp_set (zp_set (zp_set (zp_set (zp_n u.2.1) rw_ (2000 + (5 * wk + 39)) p1) rw_ (2000 + (5 * wk + 40)) p2) rw_ (2000 + (5 * wk + 41)) p3) rw_ (2000 + (5 * wk + 42)) p4) rw_ (2000 + (5 * wk + 43)) p5) rw_ (2000 + (wk + 29)) 0) rw_ (2000 + 1) ((wk : Int) + 1)) (zp_n u.2.1 a 3).toNat (2000 + 1) = zp_n u.2.1 (zp_n u.2.1 a 3).toNat (2000 + 1)) ∧ ((1 ≤ p2 ∧ p2 ≤ 600 ∧ 0 ≤ p3 ∧ p3 ≤ 23 ∧ 1 ≤ p4 ∧ p4 ≤ 99) ∧ (0 ≤ p1 ∧ p1 < zp_n u.2.1 (zp_n u.2.1 a 3).toNat (2000 + 0) ∧ (p5 = -1 ∨ (0 ≤ p5 ∧ p5 < zp_n u.2.1 (zp_n u.2.1 a 3).toNat (2000 + 1)))) ∧ 10 ≤ zp_n u.2.1 (zp_n u.2.1 a 3).toNat (2000 + 1) → (wk : Int) = -5 ∧ (zp_set (zp_set (zp_set (zp_set (zp_set (zp_set (zp_set (zp_n u.2.1) rw_ (2000 + (5 * wk + 39)) p1) rw_ (2000 + (5 * wk + 40)) p2) rw_ (2000 + (5 * wk + 41)) p3) rw_ (2000 + (5 * wk + 42)) p4) rw_ (2000 + (5 * wk + 43)) p5) rw_ (2000 + (wk + 29)) 0) rw_ (2000 + 1) ((wk : Int) + 1)) (zp_n u.2.1 a 3).toNat (2000 + 1) = zp_n u.2.1 (zp_n u.2.1 a 3).toNat (2000 + 1)) ∧ ((1 ≤ p2 ∧ p2 ≤ 600 ∧ 0 ≤ p3 ∧ p3 ≤ 23 ∧ 1 ≤ p4 ∧ p4 ≤ 99) ∧ (0 ≤ p1 ∧ p1 < zp_n u.2.1 (zp_n u.2.1 a 3).toNat (2000 + 0) ∧ (p5 = -1 ∨ (0 ≤ p5 ∧ p5 < zp_n u.2.1 (zp_n u.2.1 a 3).toNat (2000 + 1)))) ∧ zp_n u.2.1 (zp_n u.2.1 a 3).toNat (2000 + 1) < 10 → (wk : Int) = zp_n u.2.1 (zp_n u.2.1 a 3).toNat (2000 + 1) ∧ (zp_set (zp_set (zp_set (zp_set (zp_set (zp_set (zp_set (zp_n u.2.1) rw_ (2000 + (5 * wk + 39)) p1) rw_ (2000 + (5 * wk + 40)) p2) rw_ (2000 + (5 * wk + 41)) p3) rw_ (2000 + (5 * wk + 42)) p4) rw_ (2000 + (5 * wk + 43)) p5) rw_ (2000 + (wk + 29)) 0) rw_ (2000 + 1) ((wk : Int) + 1)) (zp_n u.2.1 a 3).toNat (2000 + 1) = zp_n u.2.1 (zp_n u.2.1 a 3).toNat (2000 + 1) + 1)
                rw [hrt]
                omega
              · refine zp_const (pc := 80) hx hb (zd_X12_work1 (80, .bipush (-5), 2, 0, []) (List.mem_of_getElem? (i := 41) rfl)) rfl rfl ?_
                have ez0 : (zp_n u.2.1) rw_ (2000 + 1) = (wk : Int) := hwk
                refine zp_iret (pc := 82) (n := (-5)) hx hb hE hQ hU5 rfl (by decide) (zd_X12_work1 (82, .ireturn, 1, 0, []) (List.mem_of_getElem? (i := 42) rfl)) (j := 0) rfl (zp_o0 (by omega) (by omega) (by omega) (by omega)) ?_
                rw [hps]
                refine ⟨rfl, ?_⟩
                show (¬ (1 ≤ p2 ∧ p2 ≤ 600 ∧ 0 ≤ p3 ∧ p3 ≤ 23 ∧ 1 ≤ p4 ∧ p4 ≤ 99) → (-5) = -1 ∧ (zp_n u.2.1) (zp_n u.2.1 a 3).toNat (2000 + 1) = zp_n u.2.1 (zp_n u.2.1 a 3).toNat (2000 + 1)) ∧ ((1 ≤ p2 ∧ p2 ≤ 600 ∧ 0 ≤ p3 ∧ p3 ≤ 23 ∧ 1 ≤ p4 ∧ p4 ≤ 99) ∧ ¬ (0 ≤ p1 ∧ p1 < zp_n u.2.1 (zp_n u.2.1 a 3).toNat (2000 + 0) ∧ (p5 = -1 ∨ (0 ≤ p5 ∧ p5 < zp_n u.2.1 (zp_n u.2.1 a 3).toNat (2000 + 1)))) → (-5) = -2 ∧ (zp_n u.2.1) (zp_n u.2.1 a 3).toNat (2000 + 1) = zp_n u.2.1 (zp_n u.2.1 a 3).toNat (2000 + 1)) ∧ ((1 ≤ p2 ∧ p2 ≤ 600 ∧ 0 ≤ p3 ∧ p3 ≤ 23 ∧ 1 ≤ p4 ∧ p4 ≤ 99) ∧ (0 ≤ p1 ∧ p1 < zp_n u.2.1 (zp_n u.2.1 a 3).toNat (2000 + 0) ∧ (p5 = -1 ∨ (0 ≤ p5 ∧ p5 < zp_n u.2.1 (zp_n u.2.1 a 3).toNat (2000 + 1)))) ∧ 10 ≤ zp_n u.2.1 (zp_n u.2.1 a 3).toNat (2000 + 1) → (-5) = -5 ∧ (zp_n u.2.1) (zp_n u.2.1 a 3).toNat (2000 + 1) = zp_n u.2.1 (zp_n u.2.1 a 3).toNat (2000 + 1)) ∧ ((1 ≤ p2 ∧ p2 ≤ 600 ∧ 0 ≤ p3 ∧ p3 ≤ 23 ∧ 1 ≤ p4 ∧ p4 ≤ 99) ∧ (0 ≤ p1 ∧ p1 < zp_n u.2.1 (zp_n u.2.1 a 3).toNat (2000 + 0) ∧ (p5 = -1 ∨ (0 ≤ p5 ∧ p5 < zp_n u.2.1 (zp_n u.2.1 a 3).toNat (2000 + 1)))) ∧ zp_n u.2.1 (zp_n u.2.1 a 3).toNat (2000 + 1) < 10 → (-5) = zp_n u.2.1 (zp_n u.2.1 a 3).toNat (2000 + 1) ∧ (zp_n u.2.1) (zp_n u.2.1 a 3).toNat (2000 + 1) = zp_n u.2.1 (zp_n u.2.1 a 3).toNat (2000 + 1) + 1)
                rw [hrt]
                omega
            · refine zp_const (pc := 62) hx hb (zd_X12_work1 (62, .bipush (-2), 2, 0, []) (List.mem_of_getElem? (i := 31) rfl)) rfl rfl ?_
              have ez0 : (zp_n u.2.1) rw_ (2000 + 1) = (wk : Int) := hwk
              refine zp_iret (pc := 64) (n := (-2)) hx hb hE hQ hU5 rfl (by decide) (zd_X12_work1 (64, .ireturn, 1, 0, []) (List.mem_of_getElem? (i := 32) rfl)) (j := 0) rfl (zp_o0 (by omega) (by omega) (by omega) (by omega)) ?_
              rw [hps]
              refine ⟨rfl, ?_⟩
              show (¬ (1 ≤ p2 ∧ p2 ≤ 600 ∧ 0 ≤ p3 ∧ p3 ≤ 23 ∧ 1 ≤ p4 ∧ p4 ≤ 99) → (-2) = -1 ∧ (zp_n u.2.1) (zp_n u.2.1 a 3).toNat (2000 + 1) = zp_n u.2.1 (zp_n u.2.1 a 3).toNat (2000 + 1)) ∧ ((1 ≤ p2 ∧ p2 ≤ 600 ∧ 0 ≤ p3 ∧ p3 ≤ 23 ∧ 1 ≤ p4 ∧ p4 ≤ 99) ∧ ¬ (0 ≤ p1 ∧ p1 < zp_n u.2.1 (zp_n u.2.1 a 3).toNat (2000 + 0) ∧ (p5 = -1 ∨ (0 ≤ p5 ∧ p5 < zp_n u.2.1 (zp_n u.2.1 a 3).toNat (2000 + 1)))) → (-2) = -2 ∧ (zp_n u.2.1) (zp_n u.2.1 a 3).toNat (2000 + 1) = zp_n u.2.1 (zp_n u.2.1 a 3).toNat (2000 + 1)) ∧ ((1 ≤ p2 ∧ p2 ≤ 600 ∧ 0 ≤ p3 ∧ p3 ≤ 23 ∧ 1 ≤ p4 ∧ p4 ≤ 99) ∧ (0 ≤ p1 ∧ p1 < zp_n u.2.1 (zp_n u.2.1 a 3).toNat (2000 + 0) ∧ (p5 = -1 ∨ (0 ≤ p5 ∧ p5 < zp_n u.2.1 (zp_n u.2.1 a 3).toNat (2000 + 1)))) ∧ 10 ≤ zp_n u.2.1 (zp_n u.2.1 a 3).toNat (2000 + 1) → (-2) = -5 ∧ (zp_n u.2.1) (zp_n u.2.1 a 3).toNat (2000 + 1) = zp_n u.2.1 (zp_n u.2.1 a 3).toNat (2000 + 1)) ∧ ((1 ≤ p2 ∧ p2 ≤ 600 ∧ 0 ≤ p3 ∧ p3 ≤ 23 ∧ 1 ≤ p4 ∧ p4 ≤ 99) ∧ (0 ≤ p1 ∧ p1 < zp_n u.2.1 (zp_n u.2.1 a 3).toNat (2000 + 0) ∧ (p5 = -1 ∨ (0 ≤ p5 ∧ p5 < zp_n u.2.1 (zp_n u.2.1 a 3).toNat (2000 + 1)))) ∧ zp_n u.2.1 (zp_n u.2.1 a 3).toNat (2000 + 1) < 10 → (-2) = zp_n u.2.1 (zp_n u.2.1 a 3).toNat (2000 + 1) ∧ (zp_n u.2.1) (zp_n u.2.1 a 3).toNat (2000 + 1) = zp_n u.2.1 (zp_n u.2.1 a 3).toNat (2000 + 1) + 1)
              rw [hrt]
              omega
      · refine zp_const (pc := 37) hx hb (zd_X12_work1 (37, .iconst (-1), 1, 0, []) (List.mem_of_getElem? (i := 18) rfl)) rfl rfl ?_
        have ez0 : (zp_n u.2.1) rw_ (2000 + 1) = (wk : Int) := hwk
        refine zp_iret (pc := 38) (n := (-1)) hx hb hE hQ hU5 rfl (by decide) (zd_X12_work1 (38, .ireturn, 1, 0, []) (List.mem_of_getElem? (i := 19) rfl)) (j := 0) rfl (zp_o0 (by omega) (by omega) (by omega) (by omega)) ?_
        rw [hps]
        refine ⟨rfl, ?_⟩
        show (¬ (1 ≤ p2 ∧ p2 ≤ 600 ∧ 0 ≤ p3 ∧ p3 ≤ 23 ∧ 1 ≤ p4 ∧ p4 ≤ 99) → (-1) = -1 ∧ (zp_n u.2.1) (zp_n u.2.1 a 3).toNat (2000 + 1) = zp_n u.2.1 (zp_n u.2.1 a 3).toNat (2000 + 1)) ∧ ((1 ≤ p2 ∧ p2 ≤ 600 ∧ 0 ≤ p3 ∧ p3 ≤ 23 ∧ 1 ≤ p4 ∧ p4 ≤ 99) ∧ ¬ (0 ≤ p1 ∧ p1 < zp_n u.2.1 (zp_n u.2.1 a 3).toNat (2000 + 0) ∧ (p5 = -1 ∨ (0 ≤ p5 ∧ p5 < zp_n u.2.1 (zp_n u.2.1 a 3).toNat (2000 + 1)))) → (-1) = -2 ∧ (zp_n u.2.1) (zp_n u.2.1 a 3).toNat (2000 + 1) = zp_n u.2.1 (zp_n u.2.1 a 3).toNat (2000 + 1)) ∧ ((1 ≤ p2 ∧ p2 ≤ 600 ∧ 0 ≤ p3 ∧ p3 ≤ 23 ∧ 1 ≤ p4 ∧ p4 ≤ 99) ∧ (0 ≤ p1 ∧ p1 < zp_n u.2.1 (zp_n u.2.1 a 3).toNat (2000 + 0) ∧ (p5 = -1 ∨ (0 ≤ p5 ∧ p5 < zp_n u.2.1 (zp_n u.2.1 a 3).toNat (2000 + 1)))) ∧ 10 ≤ zp_n u.2.1 (zp_n u.2.1 a 3).toNat (2000 + 1) → (-1) = -5 ∧ (zp_n u.2.1) (zp_n u.2.1 a 3).toNat (2000 + 1) = zp_n u.2.1 (zp_n u.2.1 a 3).toNat (2000 + 1)) ∧ ((1 ≤ p2 ∧ p2 ≤ 600 ∧ 0 ≤ p3 ∧ p3 ≤ 23 ∧ 1 ≤ p4 ∧ p4 ≤ 99) ∧ (0 ≤ p1 ∧ p1 < zp_n u.2.1 (zp_n u.2.1 a 3).toNat (2000 + 0) ∧ (p5 = -1 ∨ (0 ≤ p5 ∧ p5 < zp_n u.2.1 (zp_n u.2.1 a 3).toNat (2000 + 1)))) ∧ zp_n u.2.1 (zp_n u.2.1 a 3).toNat (2000 + 1) < 10 → (-1) = zp_n u.2.1 (zp_n u.2.1 a 3).toNat (2000 + 1) ∧ (zp_n u.2.1) (zp_n u.2.1 a 3).toNat (2000 + 1) = zp_n u.2.1 (zp_n u.2.1 a 3).toNat (2000 + 1) + 1)
        rw [hrt]
        omega
def zK_mwk : zk_K := (zt_mn 198, prog_14_method_27_code, 6, (Option.some Jvm.ClassFile.FieldType.int), 1, 12, [(2, 13, 0, 0), (0, 0, (-2147483648), 2147483647), (0, 0, (-2147483648), 2147483647), (0, 0, (-2147483648), 2147483647), (0, 0, (-2147483648), 2147483647), (0, 0, (-2147483648), 2147483647)], [(some (0, 0, (-5), 9), [])], [(13, 0, 0), (13, 8, 0), (13, 1, 0), (58, 1001, 0), (59, 13072, 0), (59, 10462, 0), (59, 3257, 0)], (3, 90, 0, 0))
def zψ_mwk : (Nat → Option Nat) → (Nat → Nat → Int) → List Int → (Nat → Option Nat) → (Nat → Nat → Int) → Int → Prop := fun P G ps P' G' rn => (¬ (1 ≤ ps.getD 2 0 ∧ ps.getD 2 0 ≤ 600 ∧ 0 ≤ ps.getD 3 0 ∧ ps.getD 3 0 ≤ 23 ∧ 1 ≤ ps.getD 4 0 ∧ ps.getD 4 0 ≤ 99) → rn = -1 ∧ G' (G (zp_0 ps) 3).toNat (2000 + 1) = G (G (zp_0 ps) 3).toNat (2000 + 1)) ∧ ((1 ≤ ps.getD 2 0 ∧ ps.getD 2 0 ≤ 600 ∧ 0 ≤ ps.getD 3 0 ∧ ps.getD 3 0 ≤ 23 ∧ 1 ≤ ps.getD 4 0 ∧ ps.getD 4 0 ≤ 99) ∧ ¬ (0 ≤ ps.getD 1 0 ∧ ps.getD 1 0 < G (G (zp_0 ps) 3).toNat (2000 + 0) ∧ (ps.getD 5 0 = -1 ∨ (0 ≤ ps.getD 5 0 ∧ ps.getD 5 0 < G (G (zp_0 ps) 3).toNat (2000 + 1)))) → rn = -2 ∧ G' (G (zp_0 ps) 3).toNat (2000 + 1) = G (G (zp_0 ps) 3).toNat (2000 + 1)) ∧ ((1 ≤ ps.getD 2 0 ∧ ps.getD 2 0 ≤ 600 ∧ 0 ≤ ps.getD 3 0 ∧ ps.getD 3 0 ≤ 23 ∧ 1 ≤ ps.getD 4 0 ∧ ps.getD 4 0 ≤ 99) ∧ (0 ≤ ps.getD 1 0 ∧ ps.getD 1 0 < G (G (zp_0 ps) 3).toNat (2000 + 0) ∧ (ps.getD 5 0 = -1 ∨ (0 ≤ ps.getD 5 0 ∧ ps.getD 5 0 < G (G (zp_0 ps) 3).toNat (2000 + 1)))) ∧ 10 ≤ G (G (zp_0 ps) 3).toNat (2000 + 1) → rn = -5 ∧ G' (G (zp_0 ps) 3).toNat (2000 + 1) = G (G (zp_0 ps) 3).toNat (2000 + 1)) ∧ ((1 ≤ ps.getD 2 0 ∧ ps.getD 2 0 ≤ 600 ∧ 0 ≤ ps.getD 3 0 ∧ ps.getD 3 0 ≤ 23 ∧ 1 ≤ ps.getD 4 0 ∧ ps.getD 4 0 ≤ 99) ∧ (0 ≤ ps.getD 1 0 ∧ ps.getD 1 0 < G (G (zp_0 ps) 3).toNat (2000 + 0) ∧ (ps.getD 5 0 = -1 ∨ (0 ≤ ps.getD 5 0 ∧ ps.getD 5 0 < G (G (zp_0 ps) 3).toNat (2000 + 1)))) ∧ G (G (zp_0 ps) 3).toNat (2000 + 1) < 10 → rn = G (G (zp_0 ps) 3).toNat (2000 + 1) ∧ G' (G (zp_0 ps) 3).toNat (2000 + 1) = G (G (zp_0 ps) 3).toNat (2000 + 1) + 1)
theorem zX_mwk {l : Launch} {w : zk_W} (hW : zh_W w) : zk_metX l w zt_dv zt_TB zK_mwk (zp_A zp_tA) (zp_B zψ_mwk) ∧ zk_cok w zt_TB zK_mwk := by
  refine zp_methX (cn := "WoundTownModel") zp_lkall hW (pl := 1624) rfl (by decide +kernel) (fun p e R s m args below meth c Q u hx hb hE hQ hU5 heff hnL hok hφ => ?_)
  have hw := hW.1
  obtain ⟨p0, p1, p2, p3, p4, p5, hps, k0, k1, k2, k3, k4, k5⟩ := zp_ps6 hok
  obtain ⟨a, rfl, hp⟩ := zp_this k0
  have hrm : zk_Kr (zk_ev (zt_types, zp_lk, zt_dv, [], [], zp_lc, zK_mwk)) = zk_Kr zK_mwk := rfl
  rw [hps] at hφ ⊢
  have hi1 := zp_int k1
  have hi2 := zp_int k2
  have hi3 := zp_int k3
  have hi4 := zp_int k4
  have hi5 := zp_int k5
  show zp_J p l e R s m args below meth c Q w u [] 0 [(0, 2, (a : Int)), (1, 0, p1), (2, 0, p2), (3, 0, p3), (4, 0, p4), (5, 0, p5)] [] u.1 (zp_n u.2.1)
  refine zp_kn (k := 3) (a := a) hw (show zp_fd 13 3 = some (12, 2, 59, 0, 0) from rfl) rfl hp (fun hkrw_ => ?_)
  obtain ⟨rw_, hrw_, qrw_⟩ := zp_this hkrw_
  have qrw : u.1 rw_ = some 59 := qrw_
  have hrt : (zp_n u.2.1 a 3).toNat = rw_ := by rw [hrw_, Int.toNat_natCast]
  refine zp_kaT hw qrw zl_T59 rfl zl_kd (fun hkape => ?_)
  have hkpe : zk_ok u.1 (0, 0, 0, 6) (zp_n u.2.1 rw_ (2000 + 0)) := hkape 0 (show 0 < 5580 by decide)
  obtain ⟨pe, hpe⟩ := zp_nat (zp_int hkpe).1
  have hpeb := zp_int hkpe
  rw [hpe] at hpeb
  refine zp_kaT hw qrw zl_T59 rfl zl_kd (fun hkawk => ?_)
  have hkwk : zk_ok u.1 (0, 0, 0, 10) (zp_n u.2.1 rw_ (2000 + 1)) := hkawk 1 (show 1 < 5580 by decide)
  obtain ⟨wk, hwk⟩ := zp_nat (zp_int hkwk).1
  have hwkb := zp_int hkwk
  rw [hwk] at hwkb
  refine zp_load (pc := 0) hx hb (zd_X12_work (0, .aload_n 0, 1, 0, []) (List.mem_of_getElem? (i := 0) rfl)) rfl (j := 0) rfl ?_
  refine zp_const (pc := 1) hx hb (zd_X12_work (1, .iconst 0, 1, 0, []) (List.mem_of_getElem? (i := 1) rfl)) rfl rfl ?_
  refine zp_putf (pc := 2) hx hb hE hw heff (zd_X12_work (2, .putfield 161, 3, 0, []) (List.mem_of_getElem? (i := 2) rfl)) (j := 18) rfl rfl rfl hp (zp_o0 (by decide) (by decide) (by decide) (by decide)) ?_
  refine zp_load (pc := 5) hx hb (zd_X12_work (5, .aload_n 0, 1, 0, []) (List.mem_of_getElem? (i := 3) rfl)) rfl (j := 0) rfl ?_
  refine zp_load (pc := 6) hx hb (zd_X12_work (6, .aload_n 0, 1, 0, []) (List.mem_of_getElem? (i := 4) rfl)) rfl (j := 0) rfl ?_
  refine zp_load (pc := 7) hx hb (zd_X12_work (7, .iload_n 1, 1, 0, []) (List.mem_of_getElem? (i := 5) rfl)) rfl (j := 1) rfl ?_
  refine zp_load (pc := 8) hx hb (zd_X12_work (8, .iload_n 2, 1, 0, []) (List.mem_of_getElem? (i := 6) rfl)) rfl (j := 2) rfl ?_
  refine zp_load (pc := 9) hx hb (zd_X12_work (9, .iload_n 3, 1, 0, []) (List.mem_of_getElem? (i := 7) rfl)) rfl (j := 3) rfl ?_
  refine zp_load (pc := 10) hx hb (zd_X12_work (10, .iload 4, 2, 0, []) (List.mem_of_getElem? (i := 8) rfl)) rfl (j := 4) rfl ?_
  refine zp_load (pc := 12) hx hb (zd_X12_work (12, .iload 5, 2, 0, []) (List.mem_of_getElem? (i := 9) rfl)) rfl (j := 5) rfl ?_
  have hwk14 : (zp_set (zp_n u.2.1) a 0 0) a 3 = (rw_ : Int) := ((zp_set_ne (Or.inr (by decide))).trans (hrw_))
  have hv0k14 : (zp_set (zp_n u.2.1) a 0 0) rw_ (2000 + 0) = (pe : Int) := ((zp_set_ne (Or.inl (zp_pne qrw_ hp (by decide)))).trans (hpe))
  have hv1k14 : (zp_set (zp_n u.2.1) a 0 0) rw_ (2000 + 1) = (wk : Int) := ((zp_set_ne (Or.inl (zp_pne qrw_ hp (by decide)))).trans (hwk))
  refine zp_call (pc := 14) (how := 0) (idx := 220) (mi := 199) (S := [(2, (a : Int))]) hx hb hE hw heff hrm (zX_mw1 hW) rfl (j := 9) rfl rfl (by decide +kernel) (zd_X12_work (14, .invokevirtual 220, 3, 0, []) (List.mem_of_getElem? (i := 10) rfl)) [(a : Int), p1, p2, p3, p4, p5] rfl ⟨zp_o2 hp, zp_o0 (by omega) (by omega) (by omega) (by omega), zp_o0 (by omega) (by omega) (by omega) (by omega), zp_o0 (by omega) (by omega) (by omega) (by omega), zp_o0 (by omega) (by omega) (by omega) (by omega), zp_o0 (by omega) (by omega) (by omega) (by omega), trivial⟩ (Nat.le_of_ble_eq_true rfl) trivial (fun al hal rnk14 Pk14 Gk14 hextk14 hfrk14 hokk14 hcsk14 hpsik14 => ?_)
  obtain rfl := List.mem_singleton.mp hal
  have hrk14 := zp_int (hokk14 _ rfl).1
  have yak14 := hextk14 _ _ hp
  have yrw_k14 := hextk14 _ _ qrw_
  obtain ⟨hPk14, htk14⟩ := hpsik14
  have htk14 : (¬ (1 ≤ p2 ∧ p2 ≤ 600 ∧ 0 ≤ p3 ∧ p3 ≤ 23 ∧ 1 ≤ p4 ∧ p4 ≤ 99) → rnk14 = -1 ∧ Gk14 ((zp_set (zp_n u.2.1) a 0 0) a 3).toNat (2000 + 1) = (zp_set (zp_n u.2.1) a 0 0) ((zp_set (zp_n u.2.1) a 0 0) a 3).toNat (2000 + 1)) ∧ ((1 ≤ p2 ∧ p2 ≤ 600 ∧ 0 ≤ p3 ∧ p3 ≤ 23 ∧ 1 ≤ p4 ∧ p4 ≤ 99) ∧ ¬ (0 ≤ p1 ∧ p1 < (zp_set (zp_n u.2.1) a 0 0) ((zp_set (zp_n u.2.1) a 0 0) a 3).toNat (2000 + 0) ∧ (p5 = -1 ∨ (0 ≤ p5 ∧ p5 < (zp_set (zp_n u.2.1) a 0 0) ((zp_set (zp_n u.2.1) a 0 0) a 3).toNat (2000 + 1)))) → rnk14 = -2 ∧ Gk14 ((zp_set (zp_n u.2.1) a 0 0) a 3).toNat (2000 + 1) = (zp_set (zp_n u.2.1) a 0 0) ((zp_set (zp_n u.2.1) a 0 0) a 3).toNat (2000 + 1)) ∧ ((1 ≤ p2 ∧ p2 ≤ 600 ∧ 0 ≤ p3 ∧ p3 ≤ 23 ∧ 1 ≤ p4 ∧ p4 ≤ 99) ∧ (0 ≤ p1 ∧ p1 < (zp_set (zp_n u.2.1) a 0 0) ((zp_set (zp_n u.2.1) a 0 0) a 3).toNat (2000 + 0) ∧ (p5 = -1 ∨ (0 ≤ p5 ∧ p5 < (zp_set (zp_n u.2.1) a 0 0) ((zp_set (zp_n u.2.1) a 0 0) a 3).toNat (2000 + 1)))) ∧ 10 ≤ (zp_set (zp_n u.2.1) a 0 0) ((zp_set (zp_n u.2.1) a 0 0) a 3).toNat (2000 + 1) → rnk14 = -5 ∧ Gk14 ((zp_set (zp_n u.2.1) a 0 0) a 3).toNat (2000 + 1) = (zp_set (zp_n u.2.1) a 0 0) ((zp_set (zp_n u.2.1) a 0 0) a 3).toNat (2000 + 1)) ∧ ((1 ≤ p2 ∧ p2 ≤ 600 ∧ 0 ≤ p3 ∧ p3 ≤ 23 ∧ 1 ≤ p4 ∧ p4 ≤ 99) ∧ (0 ≤ p1 ∧ p1 < (zp_set (zp_n u.2.1) a 0 0) ((zp_set (zp_n u.2.1) a 0 0) a 3).toNat (2000 + 0) ∧ (p5 = -1 ∨ (0 ≤ p5 ∧ p5 < (zp_set (zp_n u.2.1) a 0 0) ((zp_set (zp_n u.2.1) a 0 0) a 3).toNat (2000 + 1)))) ∧ (zp_set (zp_n u.2.1) a 0 0) ((zp_set (zp_n u.2.1) a 0 0) a 3).toNat (2000 + 1) < 10 → rnk14 = (zp_set (zp_n u.2.1) a 0 0) ((zp_set (zp_n u.2.1) a 0 0) a 3).toNat (2000 + 1) ∧ Gk14 ((zp_set (zp_n u.2.1) a 0 0) a 3).toNat (2000 + 1) = (zp_set (zp_n u.2.1) a 0 0) ((zp_set (zp_n u.2.1) a 0 0) a 3).toNat (2000 + 1) + 1) := htk14
  rw [hwk14, show ((rw_ : Int)).toNat = rw_ from rfl, hv0k14, hv1k14] at htk14
  obtain ⟨vwk14, hvwk14⟩ : ∃ z0 : Int, Gk14 rw_ (2000 + 1) = z0 := ⟨_, rfl⟩
  rw [hvwk14] at htk14
  refine zp_call (pc := 17) (how := 0) (idx := 185) (mi := 188) (S := []) hx hb hE hw heff hrm (zX_std hW) rfl (j := 3) rfl rfl (by decide +kernel) (zd_X12_work (17, .invokevirtual 185, 3, 0, []) (List.mem_of_getElem? (i := 11) rfl)) [(a : Int), rnk14] rfl ⟨zp_o2 yak14, zp_o0 (by omega) (by omega) (by omega) (by omega), trivial⟩ (Nat.le_of_ble_eq_true rfl) trivial (fun al hal rns15 Ps15 Gs15 hexts15 hfrs15 hoks15 hcss15 hpsis15 => ?_)
  obtain rfl := List.mem_singleton.mp hal
  have hrs15 := zp_int (hoks15 _ rfl).1
  have yas15 := hexts15 _ _ yak14
  have yrw_s15 := hexts15 _ _ yrw_k14
  have hts15 : rns15 = rnk14 := hpsis15
  have ez0 : Gs15 rw_ (2000 + 1) = vwk14 := ((zp_nc hfrs15 yrw_k14 rfl (2000 + 1)).trans hvwk14)
  refine zp_iret (pc := 20) (n := rns15) hx hb hE hQ hU5 rfl (by decide) (zd_X12_work (20, .ireturn, 1, 0, []) (List.mem_of_getElem? (i := 12) rfl)) (j := 0) rfl (zp_o0 (by omega) (by omega) (by omega) (by omega)) ?_
  rw [hps]
  show (¬ (1 ≤ p2 ∧ p2 ≤ 600 ∧ 0 ≤ p3 ∧ p3 ≤ 23 ∧ 1 ≤ p4 ∧ p4 ≤ 99) → rns15 = -1 ∧ Gs15 (zp_n u.2.1 a 3).toNat (2000 + 1) = zp_n u.2.1 (zp_n u.2.1 a 3).toNat (2000 + 1)) ∧ ((1 ≤ p2 ∧ p2 ≤ 600 ∧ 0 ≤ p3 ∧ p3 ≤ 23 ∧ 1 ≤ p4 ∧ p4 ≤ 99) ∧ ¬ (0 ≤ p1 ∧ p1 < zp_n u.2.1 (zp_n u.2.1 a 3).toNat (2000 + 0) ∧ (p5 = -1 ∨ (0 ≤ p5 ∧ p5 < zp_n u.2.1 (zp_n u.2.1 a 3).toNat (2000 + 1)))) → rns15 = -2 ∧ Gs15 (zp_n u.2.1 a 3).toNat (2000 + 1) = zp_n u.2.1 (zp_n u.2.1 a 3).toNat (2000 + 1)) ∧ ((1 ≤ p2 ∧ p2 ≤ 600 ∧ 0 ≤ p3 ∧ p3 ≤ 23 ∧ 1 ≤ p4 ∧ p4 ≤ 99) ∧ (0 ≤ p1 ∧ p1 < zp_n u.2.1 (zp_n u.2.1 a 3).toNat (2000 + 0) ∧ (p5 = -1 ∨ (0 ≤ p5 ∧ p5 < zp_n u.2.1 (zp_n u.2.1 a 3).toNat (2000 + 1)))) ∧ 10 ≤ zp_n u.2.1 (zp_n u.2.1 a 3).toNat (2000 + 1) → rns15 = -5 ∧ Gs15 (zp_n u.2.1 a 3).toNat (2000 + 1) = zp_n u.2.1 (zp_n u.2.1 a 3).toNat (2000 + 1)) ∧ ((1 ≤ p2 ∧ p2 ≤ 600 ∧ 0 ≤ p3 ∧ p3 ≤ 23 ∧ 1 ≤ p4 ∧ p4 ≤ 99) ∧ (0 ≤ p1 ∧ p1 < zp_n u.2.1 (zp_n u.2.1 a 3).toNat (2000 + 0) ∧ (p5 = -1 ∨ (0 ≤ p5 ∧ p5 < zp_n u.2.1 (zp_n u.2.1 a 3).toNat (2000 + 1)))) ∧ zp_n u.2.1 (zp_n u.2.1 a 3).toNat (2000 + 1) < 10 → rns15 = zp_n u.2.1 (zp_n u.2.1 a 3).toNat (2000 + 1) ∧ Gs15 (zp_n u.2.1 a 3).toNat (2000 + 1) = zp_n u.2.1 (zp_n u.2.1 a 3).toNat (2000 + 1) + 1)
  rw [hrt, hpe, hwk, ez0, hts15]
  exact htk14
def zK_msg : zk_K := (zt_mn 266, prog_14_method_90_code, 5, (Option.some Jvm.ClassFile.FieldType.int), 1, 12, [(2, 13, 0, 0), (0, 0, (-2147483648), 2147483647), (0, 0, (-2147483648), 2147483647), (0, 0, (-2147483648), 2147483647)], [(some (0, 0, (-5), 8), [])], [(13, 0, 0), (13, 1, 0), (58, 1001, 0), (59, 42344, 0), (59, 3514, 0)], (2, 60, 0, 0))
def zψ_msg : (Nat → Option Nat) → (Nat → Nat → Int) → List Int → (Nat → Option Nat) → (Nat → Nat → Int) → Int → Prop := fun P G ps P' G' rn => (¬ (0 ≤ ps.getD 2 0 ∧ ps.getD 2 0 ≤ 23 ∧ 0 ≤ ps.getD 3 0 ∧ ps.getD 3 0 ≤ 600) → rn = -1 ∧ G' (G (zp_0 ps) 3).toNat (2000 + 2) = G (G (zp_0 ps) 3).toNat (2000 + 2)) ∧ ((0 ≤ ps.getD 2 0 ∧ ps.getD 2 0 ≤ 23 ∧ 0 ≤ ps.getD 3 0 ∧ ps.getD 3 0 ≤ 600) ∧ ¬ (0 ≤ ps.getD 1 0 ∧ ps.getD 1 0 < G (G (zp_0 ps) 3).toNat (2000 + 1)) → rn = -2 ∧ G' (G (zp_0 ps) 3).toNat (2000 + 2) = G (G (zp_0 ps) 3).toNat (2000 + 2)) ∧ ((0 ≤ ps.getD 2 0 ∧ ps.getD 2 0 ≤ 23 ∧ 0 ≤ ps.getD 3 0 ∧ ps.getD 3 0 ≤ 600) ∧ (0 ≤ ps.getD 1 0 ∧ ps.getD 1 0 < G (G (zp_0 ps) 3).toNat (2000 + 1)) ∧ 8 ≤ G (G (zp_0 ps) 3).toNat (2000 + 2) → rn = -5 ∧ G' (G (zp_0 ps) 3).toNat (2000 + 2) = G (G (zp_0 ps) 3).toNat (2000 + 2)) ∧ ((0 ≤ ps.getD 2 0 ∧ ps.getD 2 0 ≤ 23 ∧ 0 ≤ ps.getD 3 0 ∧ ps.getD 3 0 ≤ 600) ∧ (0 ≤ ps.getD 1 0 ∧ ps.getD 1 0 < G (G (zp_0 ps) 3).toNat (2000 + 1)) ∧ G (G (zp_0 ps) 3).toNat (2000 + 2) < 8 → rn = G (G (zp_0 ps) 3).toNat (2000 + 2) + 1 ∧ G' (G (zp_0 ps) 3).toNat (2000 + 2) = G (G (zp_0 ps) 3).toNat (2000 + 2) + 1)
theorem zX_msg {l : Launch} {w : zk_W} (hW : zh_W w) : zk_metX l w zt_dv zt_TB zK_msg (zp_A zp_tA) (zp_B zψ_msg) ∧ zk_cok w zt_TB zK_msg := by
  refine zp_methX (cn := "WoundTownModel") zp_lkall hW (pl := 1918) rfl (by decide +kernel) (fun p e R s m args below meth c Q u hx hb hE hQ hU5 heff hnL hok hφ => ?_)
  have hw := hW.1
  obtain ⟨p0, p1, p2, p3, hps, k0, k1, k2, k3⟩ := zp_ps4 hok
  obtain ⟨a, rfl, hp⟩ := zp_this k0
  have hrm : zk_Kr (zk_ev (zt_types, zp_lk, zt_dv, [], [], zp_lc, zK_msg)) = zk_Kr zK_msg := rfl
  rw [hps] at hφ ⊢
  have hi1 := zp_int k1
  have hi2 := zp_int k2
  have hi3 := zp_int k3
  show zp_J p l e R s m args below meth c Q w u [] 0 [(0, 2, (a : Int)), (1, 0, p1), (2, 0, p2), (3, 0, p3)] [] u.1 (zp_n u.2.1)
  refine zp_kn (k := 3) (a := a) hw (show zp_fd 13 3 = some (12, 2, 59, 0, 0) from rfl) rfl hp (fun hkrw_ => ?_)
  obtain ⟨rw_, hrw_, qrw_⟩ := zp_this hkrw_
  have qrw : u.1 rw_ = some 59 := qrw_
  have hrt : (zp_n u.2.1 a 3).toNat = rw_ := by rw [hrw_, Int.toNat_natCast]
  refine zp_kaT hw qrw zl_T59 rfl zl_kd (fun hkawk => ?_)
  have hkwk : zk_ok u.1 (0, 0, 0, 10) (zp_n u.2.1 rw_ (2000 + 1)) := hkawk 1 (show 1 < 5580 by decide)
  obtain ⟨wk, hwk⟩ := zp_nat (zp_int hkwk).1
  have hwkb := zp_int hkwk
  rw [hwk] at hwkb
  refine zp_kaT hw qrw zl_T59 rfl zl_kd (fun hkasg => ?_)
  have hksg : zk_ok u.1 (0, 0, 0, 8) (zp_n u.2.1 rw_ (2000 + 2)) := hkasg 2 (show 2 < 5580 by decide)
  obtain ⟨sg, hsg⟩ := zp_nat (zp_int hksg).1
  have hsgb := zp_int hksg
  rw [hsg] at hsgb
  refine zp_load (pc := 0) hx hb (zd_X12_sight (0, .aload_n 0, 1, 0, []) (List.mem_of_getElem? (i := 0) rfl)) rfl (j := 0) rfl ?_
  refine zp_const (pc := 1) hx hb (zd_X12_sight (1, .iconst 0, 1, 0, []) (List.mem_of_getElem? (i := 1) rfl)) rfl rfl ?_
  refine zp_putf (pc := 2) hx hb hE hw heff (zd_X12_sight (2, .putfield 161, 3, 0, []) (List.mem_of_getElem? (i := 2) rfl)) (j := 18) rfl rfl rfl hp (zp_o0 (by decide) (by decide) (by decide) (by decide)) ?_
  refine zp_load (pc := 5) hx hb (zd_X12_sight (5, .iload_n 2, 1, 0, []) (List.mem_of_getElem? (i := 3) rfl)) rfl (j := 2) rfl ?_
  refine zp_i2l (pc := 6) hx hb (zd_X12_sight (6, .i2l, 1, 0, []) (List.mem_of_getElem? (i := 4) rfl)) ?_
  refine zp_const (pc := 7) hx hb (zd_X12_sight (7, .lconst 0, 1, 0, []) (List.mem_of_getElem? (i := 5) rfl)) rfl rfl ?_
  refine zp_ldc2 (pc := 8) hx hb hE (zd_X12_sight (8, .ldc2_w 215, 3, 0, []) (List.mem_of_getElem? (i := 6) rfl)) (j := 87) rfl ?_
  refine zp_call (pc := 11) (how := 1) (idx := 181) (mi := 186) (S := []) hx hb hE hw heff hrm (zX_in2 hW) rfl (j := 2) rfl rfl (by decide +kernel) (zd_X12_sight (11, .invokestatic 181, 3, 0, []) (List.mem_of_getElem? (i := 7) rfl)) [p2, 0, 23] rfl ⟨zp_o1 (zp_r1 (by omega) (by omega)), zp_o1 (zp_r1 (by omega) (by omega)), zp_o1 (zp_r1 (by omega) (by omega)), trivial⟩ (Nat.le_of_ble_eq_true rfl) trivial (fun al hal rnw16 Pw16 Gw16 hextw16 hfrw16 hokw16 hcsw16 hpsiw16 => ?_)
  obtain rfl := List.mem_singleton.mp hal
  have hrw16 := zp_int (hokw16 _ rfl).1
  obtain ⟨hPew16, hGew16, htw16⟩ := hpsiw16
  have htw16 : rnw16 = 1 ↔ 0 ≤ p2 ∧ p2 ≤ 23 := htw16
  rw [hPew16, hGew16]
  refine zp_if (pc := 14) (tgt := 29) hx hb (zd_X12_sight (14, .ifCond .eq 15, 3, 0, []) (List.mem_of_getElem? (i := 8) rfl)) rfl (fun (hc40 : rnw16 = 0) => ?_) (fun (hc40 : ¬ (rnw16 = 0)) => ?_)
  · refine zp_load (pc := 29) hx hb (zd_X12_sight (29, .aload_n 0, 1, 0, []) (List.mem_of_getElem? (i := 15) rfl)) rfl (j := 0) rfl ?_
    refine zp_const (pc := 30) hx hb (zd_X12_sight (30, .iconst (-1), 1, 0, []) (List.mem_of_getElem? (i := 16) rfl)) rfl rfl ?_
    refine zp_call (pc := 31) (how := 0) (idx := 170) (mi := 183) (S := []) hx hb hE hw heff hrm (zX_te13 hW) rfl (j := 0) rfl rfl (by decide +kernel) (zd_X12_sight (31, .invokevirtual 170, 3, 0, []) (List.mem_of_getElem? (i := 17) rfl)) [(a : Int), (-1)] rfl ⟨zp_o2 hp, zp_o0 (by omega) (by omega) (by omega) (by omega), trivial⟩ (Nat.le_of_ble_eq_true rfl) trivial (fun al hal rnr17 Pr17 Gr17 hextr17 hfrr17 hokr17 hcsr17 hpsir17 => ?_)
    obtain rfl := List.mem_singleton.mp hal
    have hrr17 := zp_int (hokr17 _ rfl).1
    have yar17 := hextr17 _ _ hp
    have yrw_r17 := hextr17 _ _ qrw_
    have htr17 : rnr17 = (-1) := hpsir17.2
    have ez0 : Gr17 rw_ (2000 + 2) = (sg : Int) := ((zp_nc hfrr17 qrw_ rfl (2000 + 2)).trans ((zp_set_ne (Or.inl (zp_pne qrw_ hp (by decide)))).trans (hsg)))
    refine zp_iret (pc := 34) (n := rnr17) hx hb hE hQ hU5 rfl (by decide) (zd_X12_sight (34, .ireturn, 1, 0, []) (List.mem_of_getElem? (i := 18) rfl)) (j := 0) rfl (zp_o0 (by omega) (by omega) (by omega) (by omega)) ?_
    rw [hps]
    show (¬ (0 ≤ p2 ∧ p2 ≤ 23 ∧ 0 ≤ p3 ∧ p3 ≤ 600) → rnr17 = -1 ∧ Gr17 (zp_n u.2.1 a 3).toNat (2000 + 2) = zp_n u.2.1 (zp_n u.2.1 a 3).toNat (2000 + 2)) ∧ ((0 ≤ p2 ∧ p2 ≤ 23 ∧ 0 ≤ p3 ∧ p3 ≤ 600) ∧ ¬ (0 ≤ p1 ∧ p1 < zp_n u.2.1 (zp_n u.2.1 a 3).toNat (2000 + 1)) → rnr17 = -2 ∧ Gr17 (zp_n u.2.1 a 3).toNat (2000 + 2) = zp_n u.2.1 (zp_n u.2.1 a 3).toNat (2000 + 2)) ∧ ((0 ≤ p2 ∧ p2 ≤ 23 ∧ 0 ≤ p3 ∧ p3 ≤ 600) ∧ (0 ≤ p1 ∧ p1 < zp_n u.2.1 (zp_n u.2.1 a 3).toNat (2000 + 1)) ∧ 8 ≤ zp_n u.2.1 (zp_n u.2.1 a 3).toNat (2000 + 2) → rnr17 = -5 ∧ Gr17 (zp_n u.2.1 a 3).toNat (2000 + 2) = zp_n u.2.1 (zp_n u.2.1 a 3).toNat (2000 + 2)) ∧ ((0 ≤ p2 ∧ p2 ≤ 23 ∧ 0 ≤ p3 ∧ p3 ≤ 600) ∧ (0 ≤ p1 ∧ p1 < zp_n u.2.1 (zp_n u.2.1 a 3).toNat (2000 + 1)) ∧ zp_n u.2.1 (zp_n u.2.1 a 3).toNat (2000 + 2) < 8 → rnr17 = zp_n u.2.1 (zp_n u.2.1 a 3).toNat (2000 + 2) + 1 ∧ Gr17 (zp_n u.2.1 a 3).toNat (2000 + 2) = zp_n u.2.1 (zp_n u.2.1 a 3).toNat (2000 + 2) + 1)
    rw [hrt]
    omega
  · refine zp_load (pc := 17) hx hb (zd_X12_sight (17, .iload_n 3, 1, 0, []) (List.mem_of_getElem? (i := 9) rfl)) rfl (j := 3) rfl ?_
    refine zp_i2l (pc := 18) hx hb (zd_X12_sight (18, .i2l, 1, 0, []) (List.mem_of_getElem? (i := 10) rfl)) ?_
    refine zp_const (pc := 19) hx hb (zd_X12_sight (19, .lconst 0, 1, 0, []) (List.mem_of_getElem? (i := 11) rfl)) rfl rfl ?_
    refine zp_ldc2 (pc := 20) hx hb hE (zd_X12_sight (20, .ldc2_w 213, 3, 0, []) (List.mem_of_getElem? (i := 12) rfl)) (j := 86) rfl ?_
    refine zp_call (pc := 23) (how := 1) (idx := 181) (mi := 186) (S := []) hx hb hE hw heff hrm (zX_in2 hW) rfl (j := 2) rfl rfl (by decide +kernel) (zd_X12_sight (23, .invokestatic 181, 3, 0, []) (List.mem_of_getElem? (i := 13) rfl)) [p3, 0, 600] rfl ⟨zp_o1 (zp_r1 (by omega) (by omega)), zp_o1 (zp_r1 (by omega) (by omega)), zp_o1 (zp_r1 (by omega) (by omega)), trivial⟩ (Nat.le_of_ble_eq_true rfl) trivial (fun al hal rnw18 Pw18 Gw18 hextw18 hfrw18 hokw18 hcsw18 hpsiw18 => ?_)
    obtain rfl := List.mem_singleton.mp hal
    have hrw18 := zp_int (hokw18 _ rfl).1
    obtain ⟨hPew18, hGew18, htw18⟩ := hpsiw18
    have htw18 : rnw18 = 1 ↔ 0 ≤ p3 ∧ p3 ≤ 600 := htw18
    rw [hPew18, hGew18]
    refine zp_if (pc := 26) (tgt := 35) hx hb (zd_X12_sight (26, .ifCond .ne 9, 3, 0, []) (List.mem_of_getElem? (i := 14) rfl)) rfl (fun (hc41 : ¬ rnw18 = 0) => ?_) (fun (hc41 : ¬ (¬ rnw18 = 0)) => ?_)
    · refine zp_load (pc := 35) hx hb (zd_X12_sight (35, .aload_n 0, 1, 0, []) (List.mem_of_getElem? (i := 19) rfl)) rfl (j := 0) rfl ?_
      refine zp_load (pc := 36) hx hb (zd_X12_sight (36, .iload_n 1, 1, 0, []) (List.mem_of_getElem? (i := 20) rfl)) rfl (j := 1) rfl ?_
      have hvh19 : (zp_set (zp_n u.2.1) a 0 0) rw_ (2000 + 1) = (wk : Int) := ((zp_set_ne (Or.inl (zp_pne qrw_ hp (by decide)))).trans (hwk))
      have hwh19 : (zp_set (zp_n u.2.1) a 0 0) a 3 = (rw_ : Int) := ((zp_set_ne (Or.inr (by decide))).trans (hrw_))
      refine zp_call (pc := 37) (how := 0) (idx := 217) (mi := 200) (S := []) hx hb hE hw heff hrm (zX_miw hW) rfl (j := 10) rfl rfl (by decide +kernel) (zd_X12_sight (37, .invokevirtual 217, 3, 0, []) (List.mem_of_getElem? (i := 21) rfl)) [(a : Int), p1] rfl ⟨zp_o2 hp, zp_o0 (by omega) (by omega) (by omega) (by omega), trivial⟩ (Nat.le_of_ble_eq_true rfl) trivial (fun al hal rnh19 Ph19 Gh19 hexth19 hfrh19 hokh19 hcsh19 hpsih19 => ?_)
      obtain rfl := List.mem_singleton.mp hal
      have hrh19 := zp_int (hokh19 _ rfl).1
      obtain ⟨hPeh19, hGeh19, hth19⟩ := hpsih19
      have hth19 : rnh19 = 1 ↔ 0 ≤ p1 ∧ p1 < (zp_set (zp_n u.2.1) a 0 0) ((zp_set (zp_n u.2.1) a 0 0) a 3).toNat (2000 + 1) := hth19
      rw [hPeh19, hGeh19]
      rw [hwh19, show ((rw_ : Int)).toNat = rw_ from rfl, hvh19] at hth19
      refine zp_if (pc := 40) (tgt := 50) hx hb (zd_X12_sight (40, .ifCond .ne 10, 3, 0, []) (List.mem_of_getElem? (i := 22) rfl)) rfl (fun (hc42 : ¬ rnh19 = 0) => ?_) (fun (hc42 : ¬ (¬ rnh19 = 0)) => ?_)
      · refine zp_load (pc := 50) hx hb (zd_X12_sight (50, .aload_n 0, 1, 0, []) (List.mem_of_getElem? (i := 27) rfl)) rfl (j := 0) rfl ?_
        refine zp_getf (n := (rw_ : Int)) (pc := 51) hx hb hE hw (zd_X12_sight (51, .getfield 13, 3, 0, []) (List.mem_of_getElem? (i := 28) rfl)) (j := 21) rfl rfl rfl hp ((zp_set_ne (Or.inr (by decide))).trans (hrw_)) ?_
        refine zp_const (pc := 54) hx hb (zd_X12_sight (54, .iconst 2, 1, 0, []) (List.mem_of_getElem? (i := 29) rfl)) rfl rfl ?_
        refine zp_ialdT (j := 2) (v := (sg : Int)) (pc := 55) hx hb hw (zd_X12_sight (55, .iaload, 1, 0, []) (List.mem_of_getElem? (i := 30) rfl)) zl_T59 rfl (zl_kd 2) qrw_ (by omega) (show 2 < 5580 by omega) ((zp_set_ne (Or.inl (zp_pne qrw_ hp (by decide)))).trans (hsg)) (fun hk43 => ?_)
        have hk43b := zp_int (show zk_ok u.1 (0, 0, 0, 8) (sg : Int) from hk43)
        refine zp_store (L' := [(4, 0, (sg : Int)), (0, 2, (a : Int)), (1, 0, p1), (2, 0, p2), (3, 0, p3)]) (pc := 56) hx hb hnL (zd_X12_sight (56, .istore 4, 2, 0, []) (List.mem_of_getElem? (i := 31) rfl)) rfl rfl rfl ?_
        refine zp_load (pc := 58) hx hb (zd_X12_sight (58, .iload 4, 2, 0, []) (List.mem_of_getElem? (i := 32) rfl)) rfl (j := 0) rfl ?_
        refine zp_const (pc := 60) hx hb (zd_X12_sight (60, .bipush 8, 2, 0, []) (List.mem_of_getElem? (i := 33) rfl)) rfl rfl ?_
        refine zp_icmp (pc := 62) (tgt := 72) hx hb (zd_X12_sight (62, .if_icmp .ne 10, 3, 0, []) (List.mem_of_getElem? (i := 34) rfl)) rfl (fun (hc44 : ¬ (sg : Int) = 8) => ?_) (fun (hc44 : ¬ (¬ (sg : Int) = 8)) => ?_)
        · refine zp_load (pc := 72) hx hb (zd_X12_sight (72, .aload_n 0, 1, 0, []) (List.mem_of_getElem? (i := 39) rfl)) rfl (j := 1) rfl ?_
          refine zp_getf (n := (rw_ : Int)) (pc := 73) hx hb hE hw (zd_X12_sight (73, .getfield 13, 3, 0, []) (List.mem_of_getElem? (i := 40) rfl)) (j := 21) rfl rfl rfl hp ((zp_set_ne (Or.inr (by decide))).trans (hrw_)) ?_
          refine zp_const (pc := 76) hx hb (zd_X12_sight (76, .sipush 153, 3, 0, []) (List.mem_of_getElem? (i := 41) rfl)) rfl rfl ?_
          refine zp_const (pc := 79) hx hb (zd_X12_sight (79, .iconst 3, 1, 0, []) (List.mem_of_getElem? (i := 42) rfl)) rfl rfl ?_
          refine zp_load (pc := 80) hx hb (zd_X12_sight (80, .iload 4, 2, 0, []) (List.mem_of_getElem? (i := 43) rfl)) rfl (j := 0) rfl ?_
          refine zp_mul (n := (3 * (sg : Int))) (pc := 82) hx hb (zd_X12_sight (82, .imul, 1, 0, []) (List.mem_of_getElem? (i := 44) rfl)) (by omega) (zp_r0 (by omega) (by omega)) ?_
          refine zp_add (n := (3 * (sg : Int) + 153)) (pc := 83) hx hb (zd_X12_sight (83, .iadd, 1, 0, []) (List.mem_of_getElem? (i := 45) rfl)) (by omega) (zp_r0 (by omega) (by omega)) ?_
          refine zp_load (pc := 84) hx hb (zd_X12_sight (84, .iload_n 1, 1, 0, []) (List.mem_of_getElem? (i := 46) rfl)) rfl (j := 2) rfl ?_
          refine zp_iastR (j := (3 * sg + 153)) (pc := 85) hx hb hw heff (zd_X12_sight (85, .iastore, 1, 0, []) (List.mem_of_getElem? (i := 47) rfl)) qrw_ (by omega) (by omega) (zr_st (lo := 0) (hi := 9) (zr_s0 sg (by omega)) (by omega) (by omega) (by omega) (by omega)) ⟨42344, rfl, zr_pm (lo := 153) (hi := 176) (by omega) (by omega) (by decide) (by decide)⟩ ?_
          refine zp_load (pc := 86) hx hb (zd_X12_sight (86, .aload_n 0, 1, 0, []) (List.mem_of_getElem? (i := 48) rfl)) rfl (j := 1) rfl ?_
          refine zp_getf (n := (rw_ : Int)) (pc := 87) hx hb hE hw (zd_X12_sight (87, .getfield 13, 3, 0, []) (List.mem_of_getElem? (i := 49) rfl)) (j := 21) rfl rfl rfl hp ((zp_set_ne (Or.inl (zp_pne hp qrw_ (by decide)))).trans ((zp_set_ne (Or.inr (by decide))).trans (hrw_))) ?_
          refine zp_const (pc := 90) hx hb (zd_X12_sight (90, .sipush 153, 3, 0, []) (List.mem_of_getElem? (i := 50) rfl)) rfl rfl ?_
          refine zp_const (pc := 93) hx hb (zd_X12_sight (93, .iconst 3, 1, 0, []) (List.mem_of_getElem? (i := 51) rfl)) rfl rfl ?_
          refine zp_load (pc := 94) hx hb (zd_X12_sight (94, .iload 4, 2, 0, []) (List.mem_of_getElem? (i := 52) rfl)) rfl (j := 0) rfl ?_
          refine zp_mul (n := (3 * (sg : Int))) (pc := 96) hx hb (zd_X12_sight (96, .imul, 1, 0, []) (List.mem_of_getElem? (i := 53) rfl)) (by omega) (zp_r0 (by omega) (by omega)) ?_
          refine zp_add (n := (3 * (sg : Int) + 153)) (pc := 97) hx hb (zd_X12_sight (97, .iadd, 1, 0, []) (List.mem_of_getElem? (i := 54) rfl)) (by omega) (zp_r0 (by omega) (by omega)) ?_
          refine zp_const (pc := 98) hx hb (zd_X12_sight (98, .iconst 1, 1, 0, []) (List.mem_of_getElem? (i := 55) rfl)) rfl rfl ?_
          refine zp_add (n := (3 * (sg : Int) + 154)) (pc := 99) hx hb (zd_X12_sight (99, .iadd, 1, 0, []) (List.mem_of_getElem? (i := 56) rfl)) (by omega) (zp_r0 (by omega) (by omega)) ?_
          refine zp_load (pc := 100) hx hb (zd_X12_sight (100, .iload_n 2, 1, 0, []) (List.mem_of_getElem? (i := 57) rfl)) rfl (j := 3) rfl ?_
          refine zp_iastR (j := (3 * sg + 154)) (pc := 101) hx hb hw heff (zd_X12_sight (101, .iastore, 1, 0, []) (List.mem_of_getElem? (i := 58) rfl)) qrw_ (by omega) (by omega) (zr_st (lo := 0) (hi := 23) (zr_s1 sg (by omega)) (by omega) (by omega) (by omega) (by omega)) ⟨42344, rfl, zr_pm (lo := 153) (hi := 176) (by omega) (by omega) (by decide) (by decide)⟩ ?_
          refine zp_load (pc := 102) hx hb (zd_X12_sight (102, .aload_n 0, 1, 0, []) (List.mem_of_getElem? (i := 59) rfl)) rfl (j := 1) rfl ?_
          refine zp_getf (n := (rw_ : Int)) (pc := 103) hx hb hE hw (zd_X12_sight (103, .getfield 13, 3, 0, []) (List.mem_of_getElem? (i := 60) rfl)) (j := 21) rfl rfl rfl hp ((zp_set_ne (Or.inl (zp_pne hp qrw_ (by decide)))).trans ((zp_set_ne (Or.inl (zp_pne hp qrw_ (by decide)))).trans ((zp_set_ne (Or.inr (by decide))).trans (hrw_)))) ?_
          refine zp_const (pc := 106) hx hb (zd_X12_sight (106, .sipush 153, 3, 0, []) (List.mem_of_getElem? (i := 61) rfl)) rfl rfl ?_
          refine zp_const (pc := 109) hx hb (zd_X12_sight (109, .iconst 3, 1, 0, []) (List.mem_of_getElem? (i := 62) rfl)) rfl rfl ?_
          refine zp_load (pc := 110) hx hb (zd_X12_sight (110, .iload 4, 2, 0, []) (List.mem_of_getElem? (i := 63) rfl)) rfl (j := 0) rfl ?_
          refine zp_mul (n := (3 * (sg : Int))) (pc := 112) hx hb (zd_X12_sight (112, .imul, 1, 0, []) (List.mem_of_getElem? (i := 64) rfl)) (by omega) (zp_r0 (by omega) (by omega)) ?_
          refine zp_add (n := (3 * (sg : Int) + 153)) (pc := 113) hx hb (zd_X12_sight (113, .iadd, 1, 0, []) (List.mem_of_getElem? (i := 65) rfl)) (by omega) (zp_r0 (by omega) (by omega)) ?_
          refine zp_const (pc := 114) hx hb (zd_X12_sight (114, .iconst 2, 1, 0, []) (List.mem_of_getElem? (i := 66) rfl)) rfl rfl ?_
          refine zp_add (n := (3 * (sg : Int) + 155)) (pc := 115) hx hb (zd_X12_sight (115, .iadd, 1, 0, []) (List.mem_of_getElem? (i := 67) rfl)) (by omega) (zp_r0 (by omega) (by omega)) ?_
          refine zp_load (pc := 116) hx hb (zd_X12_sight (116, .iload_n 3, 1, 0, []) (List.mem_of_getElem? (i := 68) rfl)) rfl (j := 4) rfl ?_
          refine zp_iastR (j := (3 * sg + 155)) (pc := 117) hx hb hw heff (zd_X12_sight (117, .iastore, 1, 0, []) (List.mem_of_getElem? (i := 69) rfl)) qrw_ (by omega) (by omega) (zr_st (lo := (-2147483648)) (hi := 2147483647) (zr_s2 sg (by omega)) (by omega) (by omega) (by omega) (by omega)) ⟨42344, rfl, zr_pm (lo := 153) (hi := 176) (by omega) (by omega) (by decide) (by decide)⟩ ?_
          refine zp_load (pc := 118) hx hb (zd_X12_sight (118, .aload_n 0, 1, 0, []) (List.mem_of_getElem? (i := 70) rfl)) rfl (j := 1) rfl ?_
          refine zp_getf (n := (rw_ : Int)) (pc := 119) hx hb hE hw (zd_X12_sight (119, .getfield 13, 3, 0, []) (List.mem_of_getElem? (i := 71) rfl)) (j := 21) rfl rfl rfl hp ((zp_set_ne (Or.inl (zp_pne hp qrw_ (by decide)))).trans ((zp_set_ne (Or.inl (zp_pne hp qrw_ (by decide)))).trans ((zp_set_ne (Or.inl (zp_pne hp qrw_ (by decide)))).trans ((zp_set_ne (Or.inr (by decide))).trans (hrw_))))) ?_
          refine zp_const (pc := 122) hx hb (zd_X12_sight (122, .iconst 2, 1, 0, []) (List.mem_of_getElem? (i := 72) rfl)) rfl rfl ?_
          refine zp_dup2 (pc := 123) hx hb (zd_X12_sight (123, .dup2, 1, 0, []) (List.mem_of_getElem? (i := 73) rfl)) (show (0 : Nat) ≠ 1 by decide) (show (2 : Nat) ≠ 1 by decide) ?_
          refine zp_ialdT (j := 2) (v := (sg : Int)) (pc := 124) hx hb hw (zd_X12_sight (124, .iaload, 1, 0, []) (List.mem_of_getElem? (i := 74) rfl)) zl_T59 rfl (zl_kd 2) qrw_ (by omega) (show 2 < 5580 by omega) ((zp_set_ne (Or.inr (by omega))).trans ((zp_set_ne (Or.inr (by omega))).trans ((zp_set_ne (Or.inr (by omega))).trans ((zp_set_ne (Or.inl (zp_pne qrw_ hp (by decide)))).trans (hsg))))) (fun hk45 => ?_)
          have hk45b := zp_int (show zk_ok u.1 (0, 0, 0, 8) (sg : Int) from hk45)
          refine zp_const (pc := 125) hx hb (zd_X12_sight (125, .iconst 1, 1, 0, []) (List.mem_of_getElem? (i := 75) rfl)) rfl rfl ?_
          refine zp_add (n := ((sg : Int) + 1)) (pc := 126) hx hb (zd_X12_sight (126, .iadd, 1, 0, []) (List.mem_of_getElem? (i := 76) rfl)) (by omega) (zp_r0 (by omega) (by omega)) ?_
          refine zp_iastR (j := 2) (pc := 127) hx hb hw heff (zd_X12_sight (127, .iastore, 1, 0, []) (List.mem_of_getElem? (i := 77) rfl)) qrw_ (by omega) (by omega) (zr_st (lo := 0) (hi := 8) (⟨rfl, rfl, rfl⟩) (by omega) (by omega) (by omega) (by omega)) ⟨3514, rfl, zr_pm (lo := 2) (hi := 2) (by omega) (by omega) (by decide) (by decide)⟩ ?_
          refine zp_load (pc := 128) hx hb (zd_X12_sight (128, .aload_n 0, 1, 0, []) (List.mem_of_getElem? (i := 78) rfl)) rfl (j := 1) rfl ?_
          refine zp_load (pc := 129) hx hb (zd_X12_sight (129, .iload 4, 2, 0, []) (List.mem_of_getElem? (i := 79) rfl)) rfl (j := 0) rfl ?_
          refine zp_const (pc := 131) hx hb (zd_X12_sight (131, .iconst 1, 1, 0, []) (List.mem_of_getElem? (i := 80) rfl)) rfl rfl ?_
          refine zp_add (n := ((sg : Int) + 1)) (pc := 132) hx hb (zd_X12_sight (132, .iadd, 1, 0, []) (List.mem_of_getElem? (i := 81) rfl)) (by omega) (zp_r0 (by omega) (by omega)) ?_
          refine zp_call (pc := 133) (how := 0) (idx := 170) (mi := 183) (S := []) hx hb hE hw heff hrm (zX_te13 hW) rfl (j := 0) rfl rfl (by decide +kernel) (zd_X12_sight (133, .invokevirtual 170, 3, 0, []) (List.mem_of_getElem? (i := 82) rfl)) [(a : Int), ((sg : Int) + 1)] rfl ⟨zp_o2 hp, zp_o0 (by omega) (by omega) (by omega) (by omega), trivial⟩ (Nat.le_of_ble_eq_true rfl) trivial (fun al hal rnr20 Pr20 Gr20 hextr20 hfrr20 hokr20 hcsr20 hpsir20 => ?_)
          obtain rfl := List.mem_singleton.mp hal
          have hrr20 := zp_int (hokr20 _ rfl).1
          have yar20 := hextr20 _ _ hp
          have yrw_r20 := hextr20 _ _ qrw_
          have htr20 : rnr20 = ((sg : Int) + 1) := hpsir20.2
          have ez0 : Gr20 rw_ (2000 + 2) = ((sg : Int) + 1) := ((zp_nc hfrr20 qrw_ rfl (2000 + 2)).trans zp_set_self)
          refine zp_iret (pc := 136) (n := rnr20) hx hb hE hQ hU5 rfl (by decide) (zd_X12_sight (136, .ireturn, 1, 0, []) (List.mem_of_getElem? (i := 83) rfl)) (j := 0) rfl (zp_o0 (by omega) (by omega) (by omega) (by omega)) ?_
          rw [hps]
          show (¬ (0 ≤ p2 ∧ p2 ≤ 23 ∧ 0 ≤ p3 ∧ p3 ≤ 600) → rnr20 = -1 ∧ Gr20 (zp_n u.2.1 a 3).toNat (2000 + 2) = zp_n u.2.1 (zp_n u.2.1 a 3).toNat (2000 + 2)) ∧ ((0 ≤ p2 ∧ p2 ≤ 23 ∧ 0 ≤ p3 ∧ p3 ≤ 600) ∧ ¬ (0 ≤ p1 ∧ p1 < zp_n u.2.1 (zp_n u.2.1 a 3).toNat (2000 + 1)) → rnr20 = -2 ∧ Gr20 (zp_n u.2.1 a 3).toNat (2000 + 2) = zp_n u.2.1 (zp_n u.2.1 a 3).toNat (2000 + 2)) ∧ ((0 ≤ p2 ∧ p2 ≤ 23 ∧ 0 ≤ p3 ∧ p3 ≤ 600) ∧ (0 ≤ p1 ∧ p1 < zp_n u.2.1 (zp_n u.2.1 a 3).toNat (2000 + 1)) ∧ 8 ≤ zp_n u.2.1 (zp_n u.2.1 a 3).toNat (2000 + 2) → rnr20 = -5 ∧ Gr20 (zp_n u.2.1 a 3).toNat (2000 + 2) = zp_n u.2.1 (zp_n u.2.1 a 3).toNat (2000 + 2)) ∧ ((0 ≤ p2 ∧ p2 ≤ 23 ∧ 0 ≤ p3 ∧ p3 ≤ 600) ∧ (0 ≤ p1 ∧ p1 < zp_n u.2.1 (zp_n u.2.1 a 3).toNat (2000 + 1)) ∧ zp_n u.2.1 (zp_n u.2.1 a 3).toNat (2000 + 2) < 8 → rnr20 = zp_n u.2.1 (zp_n u.2.1 a 3).toNat (2000 + 2) + 1 ∧ Gr20 (zp_n u.2.1 a 3).toNat (2000 + 2) = zp_n u.2.1 (zp_n u.2.1 a 3).toNat (2000 + 2) + 1)
          rw [hrt]
          omega
        · refine zp_load (pc := 65) hx hb (zd_X12_sight (65, .aload_n 0, 1, 0, []) (List.mem_of_getElem? (i := 35) rfl)) rfl (j := 1) rfl ?_
          refine zp_const (pc := 66) hx hb (zd_X12_sight (66, .bipush (-5), 2, 0, []) (List.mem_of_getElem? (i := 36) rfl)) rfl rfl ?_
          refine zp_call (pc := 68) (how := 0) (idx := 170) (mi := 183) (S := []) hx hb hE hw heff hrm (zX_te13 hW) rfl (j := 0) rfl rfl (by decide +kernel) (zd_X12_sight (68, .invokevirtual 170, 3, 0, []) (List.mem_of_getElem? (i := 37) rfl)) [(a : Int), (-5)] rfl ⟨zp_o2 hp, zp_o0 (by omega) (by omega) (by omega) (by omega), trivial⟩ (Nat.le_of_ble_eq_true rfl) trivial (fun al hal rnr21 Pr21 Gr21 hextr21 hfrr21 hokr21 hcsr21 hpsir21 => ?_)
          obtain rfl := List.mem_singleton.mp hal
          have hrr21 := zp_int (hokr21 _ rfl).1
          have yar21 := hextr21 _ _ hp
          have yrw_r21 := hextr21 _ _ qrw_
          have htr21 : rnr21 = (-5) := hpsir21.2
          have ez0 : Gr21 rw_ (2000 + 2) = (sg : Int) := ((zp_nc hfrr21 qrw_ rfl (2000 + 2)).trans ((zp_set_ne (Or.inl (zp_pne qrw_ hp (by decide)))).trans (hsg)))
          refine zp_iret (pc := 71) (n := rnr21) hx hb hE hQ hU5 rfl (by decide) (zd_X12_sight (71, .ireturn, 1, 0, []) (List.mem_of_getElem? (i := 38) rfl)) (j := 0) rfl (zp_o0 (by omega) (by omega) (by omega) (by omega)) ?_
          rw [hps]
          show (¬ (0 ≤ p2 ∧ p2 ≤ 23 ∧ 0 ≤ p3 ∧ p3 ≤ 600) → rnr21 = -1 ∧ Gr21 (zp_n u.2.1 a 3).toNat (2000 + 2) = zp_n u.2.1 (zp_n u.2.1 a 3).toNat (2000 + 2)) ∧ ((0 ≤ p2 ∧ p2 ≤ 23 ∧ 0 ≤ p3 ∧ p3 ≤ 600) ∧ ¬ (0 ≤ p1 ∧ p1 < zp_n u.2.1 (zp_n u.2.1 a 3).toNat (2000 + 1)) → rnr21 = -2 ∧ Gr21 (zp_n u.2.1 a 3).toNat (2000 + 2) = zp_n u.2.1 (zp_n u.2.1 a 3).toNat (2000 + 2)) ∧ ((0 ≤ p2 ∧ p2 ≤ 23 ∧ 0 ≤ p3 ∧ p3 ≤ 600) ∧ (0 ≤ p1 ∧ p1 < zp_n u.2.1 (zp_n u.2.1 a 3).toNat (2000 + 1)) ∧ 8 ≤ zp_n u.2.1 (zp_n u.2.1 a 3).toNat (2000 + 2) → rnr21 = -5 ∧ Gr21 (zp_n u.2.1 a 3).toNat (2000 + 2) = zp_n u.2.1 (zp_n u.2.1 a 3).toNat (2000 + 2)) ∧ ((0 ≤ p2 ∧ p2 ≤ 23 ∧ 0 ≤ p3 ∧ p3 ≤ 600) ∧ (0 ≤ p1 ∧ p1 < zp_n u.2.1 (zp_n u.2.1 a 3).toNat (2000 + 1)) ∧ zp_n u.2.1 (zp_n u.2.1 a 3).toNat (2000 + 2) < 8 → rnr21 = zp_n u.2.1 (zp_n u.2.1 a 3).toNat (2000 + 2) + 1 ∧ Gr21 (zp_n u.2.1 a 3).toNat (2000 + 2) = zp_n u.2.1 (zp_n u.2.1 a 3).toNat (2000 + 2) + 1)
          rw [hrt]
          omega
      · refine zp_load (pc := 43) hx hb (zd_X12_sight (43, .aload_n 0, 1, 0, []) (List.mem_of_getElem? (i := 23) rfl)) rfl (j := 0) rfl ?_
        refine zp_const (pc := 44) hx hb (zd_X12_sight (44, .bipush (-2), 2, 0, []) (List.mem_of_getElem? (i := 24) rfl)) rfl rfl ?_
        refine zp_call (pc := 46) (how := 0) (idx := 170) (mi := 183) (S := []) hx hb hE hw heff hrm (zX_te13 hW) rfl (j := 0) rfl rfl (by decide +kernel) (zd_X12_sight (46, .invokevirtual 170, 3, 0, []) (List.mem_of_getElem? (i := 25) rfl)) [(a : Int), (-2)] rfl ⟨zp_o2 hp, zp_o0 (by omega) (by omega) (by omega) (by omega), trivial⟩ (Nat.le_of_ble_eq_true rfl) trivial (fun al hal rnr22 Pr22 Gr22 hextr22 hfrr22 hokr22 hcsr22 hpsir22 => ?_)
        obtain rfl := List.mem_singleton.mp hal
        have hrr22 := zp_int (hokr22 _ rfl).1
        have yar22 := hextr22 _ _ hp
        have yrw_r22 := hextr22 _ _ qrw_
        have htr22 : rnr22 = (-2) := hpsir22.2
        have ez0 : Gr22 rw_ (2000 + 2) = (sg : Int) := ((zp_nc hfrr22 qrw_ rfl (2000 + 2)).trans ((zp_set_ne (Or.inl (zp_pne qrw_ hp (by decide)))).trans (hsg)))
        refine zp_iret (pc := 49) (n := rnr22) hx hb hE hQ hU5 rfl (by decide) (zd_X12_sight (49, .ireturn, 1, 0, []) (List.mem_of_getElem? (i := 26) rfl)) (j := 0) rfl (zp_o0 (by omega) (by omega) (by omega) (by omega)) ?_
        rw [hps]
        show (¬ (0 ≤ p2 ∧ p2 ≤ 23 ∧ 0 ≤ p3 ∧ p3 ≤ 600) → rnr22 = -1 ∧ Gr22 (zp_n u.2.1 a 3).toNat (2000 + 2) = zp_n u.2.1 (zp_n u.2.1 a 3).toNat (2000 + 2)) ∧ ((0 ≤ p2 ∧ p2 ≤ 23 ∧ 0 ≤ p3 ∧ p3 ≤ 600) ∧ ¬ (0 ≤ p1 ∧ p1 < zp_n u.2.1 (zp_n u.2.1 a 3).toNat (2000 + 1)) → rnr22 = -2 ∧ Gr22 (zp_n u.2.1 a 3).toNat (2000 + 2) = zp_n u.2.1 (zp_n u.2.1 a 3).toNat (2000 + 2)) ∧ ((0 ≤ p2 ∧ p2 ≤ 23 ∧ 0 ≤ p3 ∧ p3 ≤ 600) ∧ (0 ≤ p1 ∧ p1 < zp_n u.2.1 (zp_n u.2.1 a 3).toNat (2000 + 1)) ∧ 8 ≤ zp_n u.2.1 (zp_n u.2.1 a 3).toNat (2000 + 2) → rnr22 = -5 ∧ Gr22 (zp_n u.2.1 a 3).toNat (2000 + 2) = zp_n u.2.1 (zp_n u.2.1 a 3).toNat (2000 + 2)) ∧ ((0 ≤ p2 ∧ p2 ≤ 23 ∧ 0 ≤ p3 ∧ p3 ≤ 600) ∧ (0 ≤ p1 ∧ p1 < zp_n u.2.1 (zp_n u.2.1 a 3).toNat (2000 + 1)) ∧ zp_n u.2.1 (zp_n u.2.1 a 3).toNat (2000 + 2) < 8 → rnr22 = zp_n u.2.1 (zp_n u.2.1 a 3).toNat (2000 + 2) + 1 ∧ Gr22 (zp_n u.2.1 a 3).toNat (2000 + 2) = zp_n u.2.1 (zp_n u.2.1 a 3).toNat (2000 + 2) + 1)
        rw [hrt]
        omega
    · refine zp_load (pc := 29) hx hb (zd_X12_sight (29, .aload_n 0, 1, 0, []) (List.mem_of_getElem? (i := 15) rfl)) rfl (j := 0) rfl ?_
      refine zp_const (pc := 30) hx hb (zd_X12_sight (30, .iconst (-1), 1, 0, []) (List.mem_of_getElem? (i := 16) rfl)) rfl rfl ?_
      refine zp_call (pc := 31) (how := 0) (idx := 170) (mi := 183) (S := []) hx hb hE hw heff hrm (zX_te13 hW) rfl (j := 0) rfl rfl (by decide +kernel) (zd_X12_sight (31, .invokevirtual 170, 3, 0, []) (List.mem_of_getElem? (i := 17) rfl)) [(a : Int), (-1)] rfl ⟨zp_o2 hp, zp_o0 (by omega) (by omega) (by omega) (by omega), trivial⟩ (Nat.le_of_ble_eq_true rfl) trivial (fun al hal rnr23 Pr23 Gr23 hextr23 hfrr23 hokr23 hcsr23 hpsir23 => ?_)
      obtain rfl := List.mem_singleton.mp hal
      have hrr23 := zp_int (hokr23 _ rfl).1
      have yar23 := hextr23 _ _ hp
      have yrw_r23 := hextr23 _ _ qrw_
      have htr23 : rnr23 = (-1) := hpsir23.2
      have ez0 : Gr23 rw_ (2000 + 2) = (sg : Int) := ((zp_nc hfrr23 qrw_ rfl (2000 + 2)).trans ((zp_set_ne (Or.inl (zp_pne qrw_ hp (by decide)))).trans (hsg)))
      refine zp_iret (pc := 34) (n := rnr23) hx hb hE hQ hU5 rfl (by decide) (zd_X12_sight (34, .ireturn, 1, 0, []) (List.mem_of_getElem? (i := 18) rfl)) (j := 0) rfl (zp_o0 (by omega) (by omega) (by omega) (by omega)) ?_
      rw [hps]
      show (¬ (0 ≤ p2 ∧ p2 ≤ 23 ∧ 0 ≤ p3 ∧ p3 ≤ 600) → rnr23 = -1 ∧ Gr23 (zp_n u.2.1 a 3).toNat (2000 + 2) = zp_n u.2.1 (zp_n u.2.1 a 3).toNat (2000 + 2)) ∧ ((0 ≤ p2 ∧ p2 ≤ 23 ∧ 0 ≤ p3 ∧ p3 ≤ 600) ∧ ¬ (0 ≤ p1 ∧ p1 < zp_n u.2.1 (zp_n u.2.1 a 3).toNat (2000 + 1)) → rnr23 = -2 ∧ Gr23 (zp_n u.2.1 a 3).toNat (2000 + 2) = zp_n u.2.1 (zp_n u.2.1 a 3).toNat (2000 + 2)) ∧ ((0 ≤ p2 ∧ p2 ≤ 23 ∧ 0 ≤ p3 ∧ p3 ≤ 600) ∧ (0 ≤ p1 ∧ p1 < zp_n u.2.1 (zp_n u.2.1 a 3).toNat (2000 + 1)) ∧ 8 ≤ zp_n u.2.1 (zp_n u.2.1 a 3).toNat (2000 + 2) → rnr23 = -5 ∧ Gr23 (zp_n u.2.1 a 3).toNat (2000 + 2) = zp_n u.2.1 (zp_n u.2.1 a 3).toNat (2000 + 2)) ∧ ((0 ≤ p2 ∧ p2 ≤ 23 ∧ 0 ≤ p3 ∧ p3 ≤ 600) ∧ (0 ≤ p1 ∧ p1 < zp_n u.2.1 (zp_n u.2.1 a 3).toNat (2000 + 1)) ∧ zp_n u.2.1 (zp_n u.2.1 a 3).toNat (2000 + 2) < 8 → rnr23 = zp_n u.2.1 (zp_n u.2.1 a 3).toNat (2000 + 2) + 1 ∧ Gr23 (zp_n u.2.1 a 3).toNat (2000 + 2) = zp_n u.2.1 (zp_n u.2.1 a 3).toNat (2000 + 2) + 1)
      rw [hrt]
      omega
def zK_mfg : zk_K := (zt_mn 267, prog_14_method_91_code, 2, (Option.some Jvm.ClassFile.FieldType.int), 1, 12, [(2, 13, 0, 0)], [(some (0, 0, 0, 8), [])], [(13, 0, 0), (59, 3514, 0)], (0, 0, 0, 0))
def zψ_mfg : (Nat → Option Nat) → (Nat → Nat → Int) → List Int → (Nat → Option Nat) → (Nat → Nat → Int) → Int → Prop := fun P G ps P' G' rn => P' = P ∧ rn = G (G (zp_0 ps) 3).toNat (2000 + 2) ∧ G' (G (zp_0 ps) 3).toNat (2000 + 2) = 0
theorem zX_mfg {l : Launch} {w : zk_W} (hW : zh_W w) : zk_metX l w zt_dv zt_TB zK_mfg (zp_A zp_tA) (zp_B zψ_mfg) ∧ zk_cok w zt_TB zK_mfg := by
  refine zp_methX (cn := "WoundTownModel") zp_lkall hW (pl := 1922) rfl (by decide +kernel) (fun p e R s m args below meth c Q u hx hb hE hQ hU5 heff hnL hok hφ => ?_)
  have hw := hW.1
  obtain ⟨p0, hps, k0⟩ := zp_ps1 hok
  obtain ⟨a, rfl, hp⟩ := zp_this k0
  have hrm : zk_Kr (zk_ev (zt_types, zp_lk, zt_dv, [], [], zp_lc, zK_mfg)) = zk_Kr zK_mfg := rfl
  rw [hps] at hφ ⊢
  show zp_J p l e R s m args below meth c Q w u [] 0 [(0, 2, (a : Int))] [] u.1 (zp_n u.2.1)
  refine zp_kn (k := 3) (a := a) hw (show zp_fd 13 3 = some (12, 2, 59, 0, 0) from rfl) rfl hp (fun hkrw_ => ?_)
  obtain ⟨rw_, hrw_, qrw_⟩ := zp_this hkrw_
  have qrw : u.1 rw_ = some 59 := qrw_
  have hrt : (zp_n u.2.1 a 3).toNat = rw_ := by rw [hrw_, Int.toNat_natCast]
  refine zp_kaT hw qrw zl_T59 rfl zl_kd (fun hkasg => ?_)
  have hksg : zk_ok u.1 (0, 0, 0, 8) (zp_n u.2.1 rw_ (2000 + 2)) := hkasg 2 (show 2 < 5580 by decide)
  obtain ⟨sg, hsg⟩ := zp_nat (zp_int hksg).1
  have hsgb := zp_int hksg
  rw [hsg] at hsgb
  refine zp_load (pc := 0) hx hb (zd_X12_forget (0, .aload_n 0, 1, 0, []) (List.mem_of_getElem? (i := 0) rfl)) rfl (j := 0) rfl ?_
  refine zp_const (pc := 1) hx hb (zd_X12_forget (1, .iconst 0, 1, 0, []) (List.mem_of_getElem? (i := 1) rfl)) rfl rfl ?_
  refine zp_putf (pc := 2) hx hb hE hw heff (zd_X12_forget (2, .putfield 161, 3, 0, []) (List.mem_of_getElem? (i := 2) rfl)) (j := 18) rfl rfl rfl hp (zp_o0 (by decide) (by decide) (by decide) (by decide)) ?_
  refine zp_load (pc := 5) hx hb (zd_X12_forget (5, .aload_n 0, 1, 0, []) (List.mem_of_getElem? (i := 3) rfl)) rfl (j := 0) rfl ?_
  refine zp_getf (n := (rw_ : Int)) (pc := 6) hx hb hE hw (zd_X12_forget (6, .getfield 13, 3, 0, []) (List.mem_of_getElem? (i := 4) rfl)) (j := 21) rfl rfl rfl hp ((zp_set_ne (Or.inr (by decide))).trans (hrw_)) ?_
  refine zp_const (pc := 9) hx hb (zd_X12_forget (9, .iconst 2, 1, 0, []) (List.mem_of_getElem? (i := 5) rfl)) rfl rfl ?_
  refine zp_ialdT (j := 2) (v := (sg : Int)) (pc := 10) hx hb hw (zd_X12_forget (10, .iaload, 1, 0, []) (List.mem_of_getElem? (i := 6) rfl)) zl_T59 rfl (zl_kd 2) qrw_ (by omega) (show 2 < 5580 by omega) ((zp_set_ne (Or.inl (zp_pne qrw_ hp (by decide)))).trans (hsg)) (fun hk46 => ?_)
  have hk46b := zp_int (show zk_ok u.1 (0, 0, 0, 8) (sg : Int) from hk46)
  refine zp_store (L' := [(1, 0, (sg : Int)), (0, 2, (a : Int))]) (pc := 11) hx hb hnL (zd_X12_forget (11, .istore_n 1, 1, 0, []) (List.mem_of_getElem? (i := 7) rfl)) rfl rfl rfl ?_
  refine zp_load (pc := 12) hx hb (zd_X12_forget (12, .aload_n 0, 1, 0, []) (List.mem_of_getElem? (i := 8) rfl)) rfl (j := 1) rfl ?_
  refine zp_getf (n := (rw_ : Int)) (pc := 13) hx hb hE hw (zd_X12_forget (13, .getfield 13, 3, 0, []) (List.mem_of_getElem? (i := 9) rfl)) (j := 21) rfl rfl rfl hp ((zp_set_ne (Or.inr (by decide))).trans (hrw_)) ?_
  refine zp_const (pc := 16) hx hb (zd_X12_forget (16, .iconst 2, 1, 0, []) (List.mem_of_getElem? (i := 10) rfl)) rfl rfl ?_
  refine zp_const (pc := 17) hx hb (zd_X12_forget (17, .iconst 0, 1, 0, []) (List.mem_of_getElem? (i := 11) rfl)) rfl rfl ?_
  refine zp_iastR (j := 2) (pc := 18) hx hb hw heff (zd_X12_forget (18, .iastore, 1, 0, []) (List.mem_of_getElem? (i := 12) rfl)) qrw_ (by omega) (by omega) (zr_st (lo := 0) (hi := 8) (⟨rfl, rfl, rfl⟩) (by omega) (by omega) (by omega) (by omega)) ⟨3514, rfl, zr_pm (lo := 2) (hi := 2) (by omega) (by omega) (by decide) (by decide)⟩ ?_
  refine zp_load (pc := 19) hx hb (zd_X12_forget (19, .iload_n 1, 1, 0, []) (List.mem_of_getElem? (i := 13) rfl)) rfl (j := 0) rfl ?_
  have ez0 : (zp_set (zp_set (zp_n u.2.1) a 0 0) rw_ (2000 + 2) 0) rw_ (2000 + 2) = 0 := zp_set_self
  refine zp_iret (pc := 20) (n := (sg : Int)) hx hb hE hQ hU5 rfl (by decide) (zd_X12_forget (20, .ireturn, 1, 0, []) (List.mem_of_getElem? (i := 14) rfl)) (j := 0) rfl (zp_o0 (by omega) (by omega) (by omega) (by omega)) ?_
  rw [hps]
  refine ⟨rfl, ?_⟩
  show (sg : Int) = zp_n u.2.1 (zp_n u.2.1 a 3).toNat (2000 + 2) ∧ (zp_set (zp_set (zp_n u.2.1) a 0 0) rw_ (2000 + 2) 0) (zp_n u.2.1 a 3).toNat (2000 + 2) = 0
  rw [hrt]
  omega
def zK_mdu : zk_K := (zt_mn 204, prog_14_method_31_code, 1, (Option.some Jvm.ClassFile.FieldType.int), 1, 12, [(2, 13, 0, 0)], [(some (0, 0, (-2147483648), 2147483647), [])], [(13, 0, 0)], (0, 0, 0, 0))
def zψ_mdu : (Nat → Option Nat) → (Nat → Nat → Int) → List Int → (Nat → Option Nat) → (Nat → Nat → Int) → Int → Prop := fun P G ps P' G' rn => P' = P ∧ rn = G (zp_0 ps) 11
theorem zX_mdu {l : Launch} {w : zk_W} (hW : zh_W w) : zk_metX l w zt_dv zt_TB zK_mdu (zp_A zp_tA) (zp_B zψ_mdu) ∧ zk_cok w zt_TB zK_mdu := by
  refine zp_methX (cn := "WoundTownModel") zp_lkall hW (pl := 1652) rfl (by decide +kernel) (fun p e R s m args below meth c Q u hx hb hE hQ hU5 heff hnL hok hφ => ?_)
  have hw := hW.1
  obtain ⟨p0, hps, k0⟩ := zp_ps1 hok
  obtain ⟨a, rfl, hp⟩ := zp_this k0
  have hrm : zk_Kr (zk_ev (zt_types, zp_lk, zt_dv, [], [], zp_lc, zK_mdu)) = zk_Kr zK_mdu := rfl
  rw [hps] at hφ ⊢
  show zp_J p l e R s m args below meth c Q w u [] 0 [(0, 2, (a : Int))] [] u.1 (zp_n u.2.1)
  refine zp_kn (k := 11) (a := a) hw (show zp_fd 13 11 = some (12, 0, 0, (-2147483648), 2147483647) from rfl) rfl hp (fun hkdu => ?_)
  obtain ⟨du, hdu⟩ : ∃ z0 : Int, (zp_n u.2.1) a 11 = z0 := ⟨_, rfl⟩
  have hdub := zp_int hkdu
  rw [hdu] at hdub
  refine zp_load (pc := 0) hx hb (zd_X12_dust (0, .aload_n 0, 1, 0, []) (List.mem_of_getElem? (i := 0) rfl)) rfl (j := 0) rfl ?_
  refine zp_const (pc := 1) hx hb (zd_X12_dust (1, .iconst 0, 1, 0, []) (List.mem_of_getElem? (i := 1) rfl)) rfl rfl ?_
  refine zp_putf (pc := 2) hx hb hE hw heff (zd_X12_dust (2, .putfield 161, 3, 0, []) (List.mem_of_getElem? (i := 2) rfl)) (j := 18) rfl rfl rfl hp (zp_o0 (by decide) (by decide) (by decide) (by decide)) ?_
  refine zp_load (pc := 5) hx hb (zd_X12_dust (5, .aload_n 0, 1, 0, []) (List.mem_of_getElem? (i := 3) rfl)) rfl (j := 0) rfl ?_
  refine zp_getf (n := du) (pc := 6) hx hb hE hw (zd_X12_dust (6, .getfield 231, 3, 0, []) (List.mem_of_getElem? (i := 4) rfl)) (j := 29) rfl rfl rfl hp ((zp_set_ne (Or.inr (by decide))).trans (hdu)) ?_
  refine zp_iret (pc := 9) (n := du) hx hb hE hQ hU5 rfl (by decide) (zd_X12_dust (9, .ireturn, 1, 0, []) (List.mem_of_getElem? (i := 5) rfl)) (j := 0) rfl (zp_o0 (by omega) (by omega) (by omega) (by omega)) ?_
  rw [hps]
  refine ⟨rfl, ?_⟩
  show du = zp_n u.2.1 a 11
  omega
def zK_mrw : zk_K := (zt_mn 203, prog_14_method_30_code, 4, (Option.some Jvm.ClassFile.FieldType.int), 1, 12, [(2, 13, 0, 0)], [(some (0, 0, (-6), 100), [])], [(13, 0, 0), (13, 8, 0), (13, 1, 0), (58, 1001, 0), (59, 13072, 0), (59, 10462, 0), (59, 3257, 0), (13, 11, 0), (13, 13, 0)], (3, 90, 0, 0))
def zψ_mrw : (Nat → Option Nat) → (Nat → Nat → Int) → List Int → (Nat → Option Nat) → (Nat → Nat → Int) → Int → Prop := fun P G ps P' G' rn => ((G (zp_0 ps) 13) = 0 → rn = -6 ∧ (G' (G (zp_0 ps) 3).toNat (2000 + 1)) = (G (G (zp_0 ps) 3).toNat (2000 + 1)) ∧ (G' (zp_0 ps) 11) = (G (zp_0 ps) 11)) ∧ (¬ (G (zp_0 ps) 13) = 0 → rn = zR_w (fun j => G (G (zp_0 ps) 12).toNat (2000 + j)) (G (zp_0 ps) 13) (G (G (zp_0 ps) 3).toNat (2000 + 0)) (G (G (zp_0 ps) 3).toNat (2000 + 1)) (((G (zp_0 ps) 13).toNat + 3) / 4) - (G (G (zp_0 ps) 3).toNat (2000 + 1)) ∧ (G' (G (zp_0 ps) 3).toNat (2000 + 1)) = zR_w (fun j => G (G (zp_0 ps) 12).toNat (2000 + j)) (G (zp_0 ps) 13) (G (G (zp_0 ps) 3).toNat (2000 + 0)) (G (G (zp_0 ps) 3).toNat (2000 + 1)) (((G (zp_0 ps) 13).toNat + 3) / 4) ∧ (G' (zp_0 ps) 11) = (((((G (zp_0 ps) 13).toNat + 3) / 4 : Nat) : Int)) - (zR_w (fun j => G (G (zp_0 ps) 12).toNat (2000 + j)) (G (zp_0 ps) 13) (G (G (zp_0 ps) 3).toNat (2000 + 0)) (G (G (zp_0 ps) 3).toNat (2000 + 1)) (((G (zp_0 ps) 13).toNat + 3) / 4) - (G (G (zp_0 ps) 3).toNat (2000 + 1)))) ∧ (G' (zp_0 ps) 13) = 0
set_option maxHeartbeats 4000000 in
theorem zX_mrw {l : Launch} {w : zk_W} (hW : zh_W w) : zk_metX l w zt_dv zt_TB zK_mrw (zp_A zp_tA) (zp_B zψ_mrw) ∧ zk_cok w zt_TB zK_mrw := by
  refine zp_methX (cn := "WoundTownModel") zp_lkall hW (pl := 1648) rfl (by decide +kernel) (fun p e R s m args below meth c Q u hx hb hE hQ hU5 heff hnL hok hφ => ?_)
  have hw := hW.1
  obtain ⟨p0, hps, k0⟩ := zp_ps1 hok
  obtain ⟨a, rfl, hp⟩ := zp_this k0
  have hrm : zk_Kr (zk_ev (zt_types, zp_lk, zt_dv, [], [], zp_lc, zK_mrw)) = zk_Kr zK_mrw := rfl
  rw [hps] at hφ ⊢
  show zp_J p l e R s m args below meth c Q w u [] 0 [(0, 2, (a : Int))] [] u.1 (zp_n u.2.1)
  refine zp_kn (k := 3) (a := a) hw (show zp_fd 13 3 = some (12, 2, 59, 0, 0) from rfl) rfl hp (fun hkrw_ => ?_)
  obtain ⟨rw_, hrw_, qrw_⟩ := zp_this hkrw_
  have qrw : u.1 rw_ = some 59 := qrw_
  have hrt : (zp_n u.2.1 a 3).toNat = rw_ := by rw [hrw_, Int.toNat_natCast]
  refine zp_kaT hw qrw zl_T59 rfl zl_kd (fun hkape => ?_)
  have hkpe : zk_ok u.1 (0, 0, 0, 6) (zp_n u.2.1 rw_ (2000 + 0)) := hkape 0 (show 0 < 5580 by decide)
  obtain ⟨pe, hpe⟩ := zp_nat (zp_int hkpe).1
  have hpeb := zp_int hkpe
  rw [hpe] at hpeb
  refine zp_kaT hw qrw zl_T59 rfl zl_kd (fun hkawk => ?_)
  have hkwk : zk_ok u.1 (0, 0, 0, 10) (zp_n u.2.1 rw_ (2000 + 1)) := hkawk 1 (show 1 < 5580 by decide)
  obtain ⟨wk, hwk⟩ := zp_nat (zp_int hkwk).1
  have hwkb := zp_int hkwk
  rw [hwk] at hwkb
  refine zp_kn (k := 12) (a := a) hw (show zp_fd 13 12 = some (12, 2, 66, 0, 0) from rfl) rfl hp (fun hktb => ?_)
  obtain ⟨tb, htb, qtb⟩ := zp_this hktb
  refine zp_kn (k := 13) (a := a) hw (show zp_fd 13 13 = some (12, 0, 0, 0, 400) from rfl) rfl hp (fun hkln => ?_)
  obtain ⟨ln, hln⟩ := zp_nat (zp_int hkln).1
  have hlnb := zp_int hkln
  rw [hln] at hlnb
  refine zp_kn (k := 11) (a := a) hw (show zp_fd 13 11 = some (12, 0, 0, (-2147483648), 2147483647) from rfl) rfl hp (fun hkdu => ?_)
  obtain ⟨du, hdu⟩ : ∃ z0 : Int, (zp_n u.2.1) a 11 = z0 := ⟨_, rfl⟩
  have hdub := zp_int hkdu
  rw [hdu] at hdub
  have htv : (zp_n u.2.1 a 12).toNat = tb := by rw [htb, Int.toNat_natCast]
  obtain ⟨Bf, hBf⟩ : ∃ Bf : Nat → Int, Bf = fun j => zp_n u.2.1 tb (2000 + j) := ⟨_, rfl⟩
  obtain ⟨Wf, hWf⟩ : ∃ Wf : Nat → Int, Wf = zR_w Bf (ln : Int) (pe : Int) (wk : Int) := ⟨_, rfl⟩
  have hW0 : Wf 0 = (wk : Int) := by rw [hWf]; rfl
  have hWb : ∀ k : Nat, (wk : Int) ≤ Wf k ∧ Wf k ≤ (wk : Int) + (k : Int) := fun k => by rw [hWf]; exact zR_wb _ _ _ _ k
  have hWs : ∀ k : Nat, (zR_b Bf (ln : Int) (pe : Int) (Wf k) (4 * k) = true → Wf (k + 1) = Wf k + 1) ∧ (zR_b Bf (ln : Int) (pe : Int) (Wf k) (4 * k) = false → Wf (k + 1) = Wf k) := fun k => by
    rw [hWf]
    exact ⟨fun h => if_pos h, fun h => if_neg (by rw [h]; decide)⟩
  have loop : ∀ (n k : Nat) (G : Nat → Nat → Int), 101 - k < n → 4 * k ≤ ln + 3 → G a 3 = (rw_ : Int) → G a 12 = (tb : Int) → G a 13 = 0 → G rw_ (2000 + 0) = (pe : Int) → (∀ j, G tb (2000 + j) = Bf j) → G rw_ (2000 + 1) = Wf k → G a 11 = (k : Int) - (Wf k - (wk : Int)) → 0 < ln → zp_J p l e R s m args below meth c Q w u [] 35 [(3, 0, (4 * (k : Int))), (2, 0, (Wf k - (wk : Int))), (0, 2, (a : Int)), (1, 0, (ln : Int))] [] u.1 G := by
    intro n
    induction n with
    | zero => intro k G h; exact absurd h (Nat.not_lt_zero _)
    | succ n ih =>
      intro k G hn hk e3 e12 e13 n0 hBk n1 e11 hl0
      have hbk := hWb k
      have hln4 : ln ≤ 400 := by omega
      have hzb : zR_b Bf (ln : Int) (pe : Int) (Wf k) (4 * k) = true ↔ (((4 * k : Nat) : Int) + 3 < (ln : Int) ∧ 0 ≤ Bf (4 * k) ∧ Bf (4 * k) < (pe : Int) ∧ 1 ≤ Bf (4 * k + 1) ∧ 0 ≤ Bf (4 * k + 2) ∧ Bf (4 * k + 2) ≤ 23 ∧ 1 ≤ Bf (4 * k + 3) ∧ Bf (4 * k + 3) ≤ 99 ∧ Wf k < 10) := decide_eq_true_iff
      have hws := hWs k
      refine zp_load (pc := 35) hx hb (zd_X12_row (35, .iload_n 3, 1, 0, []) (List.mem_of_getElem? (i := 22) rfl)) rfl (j := 0) rfl ?_
      refine zp_load (pc := 36) hx hb (zd_X12_row (36, .iload_n 1, 1, 0, []) (List.mem_of_getElem? (i := 23) rfl)) rfl (j := 3) rfl ?_
      refine zp_icmp (pc := 37) (tgt := 107) hx hb (zd_X12_row (37, .if_icmp .ge 70, 3, 0, []) (List.mem_of_getElem? (i := 24) rfl)) rfl (fun (hc47 : (ln : Int) ≤ (4 * (k : Int))) => ?_) (fun (hc47 : ¬ ((ln : Int) ≤ (4 * (k : Int)))) => ?_)
      · refine zp_load (pc := 107) hx hb (zd_X12_row (107, .aload_n 0, 1, 0, []) (List.mem_of_getElem? (i := 66) rfl)) rfl (j := 2) rfl ?_
        refine zp_load (pc := 108) hx hb (zd_X12_row (108, .iload_n 2, 1, 0, []) (List.mem_of_getElem? (i := 67) rfl)) rfl (j := 1) rfl ?_
        refine zp_call (pc := 109) (how := 0) (idx := 185) (mi := 188) (S := []) hx hb hE hw heff hrm (zX_std hW) rfl (j := 3) rfl rfl (by decide +kernel) (zd_X12_row (109, .invokevirtual 185, 3, 0, []) (List.mem_of_getElem? (i := 68) rfl)) [(a : Int), (Wf k - (wk : Int))] rfl ⟨zp_o2 hp, zp_o0 (by omega) (by omega) (by omega) (by omega), trivial⟩ (Nat.le_of_ble_eq_true rfl) trivial (fun al hal rns24 Ps24 Gs24 hexts24 hfrs24 hoks24 hcss24 hpsis24 => ?_)
        obtain rfl := List.mem_singleton.mp hal
        have hrs24 := zp_int (hoks24 _ rfl).1
        have yas24 := hexts24 _ _ hp
        have yrw_s24 := hexts24 _ _ qrw_
        have ytbs24 := hexts24 _ _ qtb
        have hts24 : rns24 = (Wf k - (wk : Int)) := hpsis24
        have ez0 : Gs24 rw_ (2000 + 1) = (Wf k) := ((zp_nc hfrs24 qrw_ rfl (2000 + 1)).trans n1)
        have ez1 : Gs24 a 11 = ((k : Int) - (Wf k - (wk : Int))) := ((zp_nf hfrs24 hp rfl).trans e11)
        have ez2 : Gs24 a 13 = 0 := ((zp_nf hfrs24 hp rfl).trans e13)
        refine zp_iret (pc := 112) (n := rns24) hx hb hE hQ hU5 rfl (by decide) (zd_X12_row (112, .ireturn, 1, 0, []) (List.mem_of_getElem? (i := 69) rfl)) (j := 0) rfl (zp_o0 (by omega) (by omega) (by omega) (by omega)) ?_
        rw [hps]
        show ((zp_n u.2.1 a 13) = 0 → rns24 = -6 ∧ (Gs24 (zp_n u.2.1 a 3).toNat (2000 + 1)) = (zp_n u.2.1 (zp_n u.2.1 a 3).toNat (2000 + 1)) ∧ (Gs24 a 11) = (zp_n u.2.1 a 11)) ∧ (¬ (zp_n u.2.1 a 13) = 0 → rns24 = zR_w (fun j => zp_n u.2.1 (zp_n u.2.1 a 12).toNat (2000 + j)) (zp_n u.2.1 a 13) (zp_n u.2.1 (zp_n u.2.1 a 3).toNat (2000 + 0)) (zp_n u.2.1 (zp_n u.2.1 a 3).toNat (2000 + 1)) (((zp_n u.2.1 a 13).toNat + 3) / 4) - (zp_n u.2.1 (zp_n u.2.1 a 3).toNat (2000 + 1)) ∧ (Gs24 (zp_n u.2.1 a 3).toNat (2000 + 1)) = zR_w (fun j => zp_n u.2.1 (zp_n u.2.1 a 12).toNat (2000 + j)) (zp_n u.2.1 a 13) (zp_n u.2.1 (zp_n u.2.1 a 3).toNat (2000 + 0)) (zp_n u.2.1 (zp_n u.2.1 a 3).toNat (2000 + 1)) (((zp_n u.2.1 a 13).toNat + 3) / 4) ∧ (Gs24 a 11) = (((((zp_n u.2.1 a 13).toNat + 3) / 4 : Nat) : Int)) - (zR_w (fun j => zp_n u.2.1 (zp_n u.2.1 a 12).toNat (2000 + j)) (zp_n u.2.1 a 13) (zp_n u.2.1 (zp_n u.2.1 a 3).toNat (2000 + 0)) (zp_n u.2.1 (zp_n u.2.1 a 3).toNat (2000 + 1)) (((zp_n u.2.1 a 13).toNat + 3) / 4) - (zp_n u.2.1 (zp_n u.2.1 a 3).toNat (2000 + 1)))) ∧ (Gs24 a 13) = 0
        rw [hrt, htv, hln, hpe, hwk, ← hBf, ← hWf, Int.toNat_natCast]
        have hk4 : (ln + 3) / 4 = k := by omega
        rw [hk4]
        omega
      · refine zp_load (pc := 40) hx hb (zd_X12_row (40, .iload_n 3, 1, 0, []) (List.mem_of_getElem? (i := 25) rfl)) rfl (j := 0) rfl ?_
        refine zp_const (pc := 41) hx hb (zd_X12_row (41, .iconst 3, 1, 0, []) (List.mem_of_getElem? (i := 26) rfl)) rfl rfl ?_
        refine zp_add (n := (4 * (k : Int) + 3)) (pc := 42) hx hb (zd_X12_row (42, .iadd, 1, 0, []) (List.mem_of_getElem? (i := 27) rfl)) (by omega) (zp_r0 (by omega) (by omega)) ?_
        refine zp_load (pc := 43) hx hb (zd_X12_row (43, .iload_n 1, 1, 0, []) (List.mem_of_getElem? (i := 28) rfl)) rfl (j := 3) rfl ?_
        refine zp_icmp (pc := 44) (tgt := 91) hx hb (zd_X12_row (44, .if_icmp .ge 47, 3, 0, []) (List.mem_of_getElem? (i := 29) rfl)) rfl (fun (hc48 : (ln : Int) ≤ (4 * (k : Int) + 3)) => ?_) (fun (hc48 : ¬ ((ln : Int) ≤ (4 * (k : Int) + 3))) => ?_)
        · refine zp_load (pc := 91) hx hb (zd_X12_row (91, .aload_n 0, 1, 0, []) (List.mem_of_getElem? (i := 58) rfl)) rfl (j := 2) rfl ?_
          refine zp_dup (pc := 92) hx hb (zd_X12_row (92, .dup, 1, 0, []) (List.mem_of_getElem? (i := 59) rfl)) (show (2 : Nat) ≠ 1 by decide) ?_
          refine zp_getf (n := ((k : Int) - (Wf k - (wk : Int)))) (pc := 93) hx hb hE hw (zd_X12_row (93, .getfield 231, 3, 0, []) (List.mem_of_getElem? (i := 60) rfl)) (j := 29) rfl rfl rfl hp e11 ?_
          refine zp_const (pc := 96) hx hb (zd_X12_row (96, .iconst 1, 1, 0, []) (List.mem_of_getElem? (i := 61) rfl)) rfl rfl ?_
          refine zp_add (n := (((k : Int) - (Wf k - (wk : Int))) + 1)) (pc := 97) hx hb (zd_X12_row (97, .iadd, 1, 0, []) (List.mem_of_getElem? (i := 62) rfl)) (by omega) (zp_r0 (by omega) (by omega)) ?_
          refine zp_putf (pc := 98) hx hb hE hw heff (zd_X12_row (98, .putfield 231, 3, 0, []) (List.mem_of_getElem? (i := 63) rfl)) (j := 29) rfl rfl rfl hp (zp_o0 (by omega) (by omega) (by omega) (by omega)) ?_
          refine zp_iinc (L' := [(3, 0, (4 * (k : Int) + 4)), (2, 0, (Wf k - (wk : Int))), (0, 2, (a : Int)), (1, 0, (ln : Int))]) (n := (4 * (k : Int) + 4)) (pc := 101) hx hb hnL (zd_X12_row (101, .iinc 3 4, 3, 0, []) (List.mem_of_getElem? (i := 64) rfl)) (j := 0) rfl (by omega) (zp_r0 (by omega) (by omega)) rfl rfl ?_
          refine zp_goto (tgt := 35) (pc := 104) hx hb (zd_X12_row (104, .goto (-69), 3, 0, []) (List.mem_of_getElem? (i := 65) rfl)) rfl ?_
          have hnx : Wf (k + 1) = Wf k := hws.2 (by cases hzc : zR_b Bf (ln : Int) (pe : Int) (Wf k) (4 * k) with | true => (exfalso; have h1 := hzb.mp hzc; omega) | false => rfl)
          refine zp_drop (L' := [(3, 0, (4 * ((k + 1 : Nat) : Int))), (2, 0, (Wf (k + 1) - (wk : Int))), (0, 2, (a : Int)), (1, 0, (ln : Int))]) (by simp <;> omega) ?_
          exact ih (k + 1) _ (by omega) (by omega) (((zp_set_ne (Or.inr (by decide))).trans (e3))) (((zp_set_ne (Or.inr (by decide))).trans (e12))) (((zp_set_ne (Or.inr (by decide))).trans (e13))) (((zp_set_ne (Or.inl (zp_pne qrw_ hp (by decide)))).trans (n0))) (fun j => (((zp_set_ne (Or.inl (zp_pne qtb hp (by decide)))))).trans (hBk j)) ((((zp_set_ne (Or.inl (zp_pne qrw_ hp (by decide)))).trans (n1))).trans (by omega)) ((zp_set_self).trans (by omega)) hl0
        · refine zp_load (pc := 47) hx hb (zd_X12_row (47, .aload_n 0, 1, 0, []) (List.mem_of_getElem? (i := 30) rfl)) rfl (j := 2) rfl ?_
          refine zp_load (pc := 48) hx hb (zd_X12_row (48, .aload_n 0, 1, 0, []) (List.mem_of_getElem? (i := 31) rfl)) rfl (j := 2) rfl ?_
          refine zp_getf (n := (tb : Int)) (pc := 49) hx hb hE hw (zd_X12_row (49, .getfield 35, 3, 0, []) (List.mem_of_getElem? (i := 32) rfl)) (j := 30) rfl rfl rfl hp e12 ?_
          refine zp_load (pc := 52) hx hb (zd_X12_row (52, .iload_n 3, 1, 0, []) (List.mem_of_getElem? (i := 33) rfl)) rfl (j := 0) rfl ?_
          refine zp_iald (j := (4 * k)) (v := (G tb (2000 + (4 * k)))) (pc := 53) hx hb hw (zd_X12_row (53, .iaload, 1, 0, []) (List.mem_of_getElem? (i := 34) rfl)) (show zp_ia 1 66 = some (400, 0, 0, 0, 255) from rfl) qtb (by omega) (by omega) rfl (fun hk49 => ?_)
          have hk49b := zp_int hk49
          refine zp_load (pc := 54) hx hb (zd_X12_row (54, .aload_n 0, 1, 0, []) (List.mem_of_getElem? (i := 35) rfl)) rfl (j := 2) rfl ?_
          refine zp_getf (n := (tb : Int)) (pc := 55) hx hb hE hw (zd_X12_row (55, .getfield 35, 3, 0, []) (List.mem_of_getElem? (i := 36) rfl)) (j := 30) rfl rfl rfl hp e12 ?_
          refine zp_load (pc := 58) hx hb (zd_X12_row (58, .iload_n 3, 1, 0, []) (List.mem_of_getElem? (i := 37) rfl)) rfl (j := 0) rfl ?_
          refine zp_const (pc := 59) hx hb (zd_X12_row (59, .iconst 1, 1, 0, []) (List.mem_of_getElem? (i := 38) rfl)) rfl rfl ?_
          refine zp_add (n := (4 * (k : Int) + 1)) (pc := 60) hx hb (zd_X12_row (60, .iadd, 1, 0, []) (List.mem_of_getElem? (i := 39) rfl)) (by omega) (zp_r0 (by omega) (by omega)) ?_
          refine zp_iald (j := (4 * k + 1)) (v := (G tb (2000 + (4 * k + 1)))) (pc := 61) hx hb hw (zd_X12_row (61, .iaload, 1, 0, []) (List.mem_of_getElem? (i := 40) rfl)) (show zp_ia 1 66 = some (400, 0, 0, 0, 255) from rfl) qtb (by omega) (by omega) rfl (fun hk50 => ?_)
          have hk50b := zp_int hk50
          refine zp_load (pc := 62) hx hb (zd_X12_row (62, .aload_n 0, 1, 0, []) (List.mem_of_getElem? (i := 41) rfl)) rfl (j := 2) rfl ?_
          refine zp_getf (n := (tb : Int)) (pc := 63) hx hb hE hw (zd_X12_row (63, .getfield 35, 3, 0, []) (List.mem_of_getElem? (i := 42) rfl)) (j := 30) rfl rfl rfl hp e12 ?_
          refine zp_load (pc := 66) hx hb (zd_X12_row (66, .iload_n 3, 1, 0, []) (List.mem_of_getElem? (i := 43) rfl)) rfl (j := 0) rfl ?_
          refine zp_const (pc := 67) hx hb (zd_X12_row (67, .iconst 2, 1, 0, []) (List.mem_of_getElem? (i := 44) rfl)) rfl rfl ?_
          refine zp_add (n := (4 * (k : Int) + 2)) (pc := 68) hx hb (zd_X12_row (68, .iadd, 1, 0, []) (List.mem_of_getElem? (i := 45) rfl)) (by omega) (zp_r0 (by omega) (by omega)) ?_
          refine zp_iald (j := (4 * k + 2)) (v := (G tb (2000 + (4 * k + 2)))) (pc := 69) hx hb hw (zd_X12_row (69, .iaload, 1, 0, []) (List.mem_of_getElem? (i := 46) rfl)) (show zp_ia 1 66 = some (400, 0, 0, 0, 255) from rfl) qtb (by omega) (by omega) rfl (fun hk51 => ?_)
          have hk51b := zp_int hk51
          refine zp_load (pc := 70) hx hb (zd_X12_row (70, .aload_n 0, 1, 0, []) (List.mem_of_getElem? (i := 47) rfl)) rfl (j := 2) rfl ?_
          refine zp_getf (n := (tb : Int)) (pc := 71) hx hb hE hw (zd_X12_row (71, .getfield 35, 3, 0, []) (List.mem_of_getElem? (i := 48) rfl)) (j := 30) rfl rfl rfl hp e12 ?_
          refine zp_load (pc := 74) hx hb (zd_X12_row (74, .iload_n 3, 1, 0, []) (List.mem_of_getElem? (i := 49) rfl)) rfl (j := 0) rfl ?_
          refine zp_const (pc := 75) hx hb (zd_X12_row (75, .iconst 3, 1, 0, []) (List.mem_of_getElem? (i := 50) rfl)) rfl rfl ?_
          refine zp_add (n := (4 * (k : Int) + 3)) (pc := 76) hx hb (zd_X12_row (76, .iadd, 1, 0, []) (List.mem_of_getElem? (i := 51) rfl)) (by omega) (zp_r0 (by omega) (by omega)) ?_
          refine zp_iald (j := (4 * k + 3)) (v := (G tb (2000 + (4 * k + 3)))) (pc := 77) hx hb hw (zd_X12_row (77, .iaload, 1, 0, []) (List.mem_of_getElem? (i := 52) rfl)) (show zp_ia 1 66 = some (400, 0, 0, 0, 255) from rfl) qtb (by omega) (by omega) rfl (fun hk52 => ?_)
          have hk52b := zp_int hk52
          refine zp_const (pc := 78) hx hb (zd_X12_row (78, .iconst (-1), 1, 0, []) (List.mem_of_getElem? (i := 53) rfl)) rfl rfl ?_
          have hwk25 : G a 3 = (rw_ : Int) := e3
          have hv0k25 : G rw_ (2000 + 0) = (pe : Int) := n0
          have hv1k25 : G rw_ (2000 + 1) = (Wf k) := n1
          refine zp_call (pc := 79) (how := 0) (idx := 220) (mi := 199) (S := []) hx hb hE hw heff hrm (zX_mw1 hW) rfl (j := 9) rfl rfl (by decide +kernel) (zd_X12_row (79, .invokevirtual 220, 3, 0, []) (List.mem_of_getElem? (i := 54) rfl)) [(a : Int), (G tb (2000 + (4 * k))), (G tb (2000 + (4 * k + 1))), (G tb (2000 + (4 * k + 2))), (G tb (2000 + (4 * k + 3))), (-1)] rfl ⟨zp_o2 hp, zp_o0 (by omega) (by omega) (by omega) (by omega), zp_o0 (by omega) (by omega) (by omega) (by omega), zp_o0 (by omega) (by omega) (by omega) (by omega), zp_o0 (by omega) (by omega) (by omega) (by omega), zp_o0 (by omega) (by omega) (by omega) (by omega), trivial⟩ (Nat.le_of_ble_eq_true rfl) trivial (fun al hal rnk25 Pk25 Gk25 hextk25 hfrk25 hokk25 hcsk25 hpsik25 => ?_)
          obtain rfl := List.mem_singleton.mp hal
          have hrk25 := zp_int (hokk25 _ rfl).1
          have yak25 := hextk25 _ _ hp
          have yrw_k25 := hextk25 _ _ qrw_
          have ytbk25 := hextk25 _ _ qtb
          obtain ⟨hPk25, htk25⟩ := hpsik25
          have htk25 : (¬ (1 ≤ (G tb (2000 + (4 * k + 1))) ∧ (G tb (2000 + (4 * k + 1))) ≤ 600 ∧ 0 ≤ (G tb (2000 + (4 * k + 2))) ∧ (G tb (2000 + (4 * k + 2))) ≤ 23 ∧ 1 ≤ (G tb (2000 + (4 * k + 3))) ∧ (G tb (2000 + (4 * k + 3))) ≤ 99) → rnk25 = -1 ∧ Gk25 (G a 3).toNat (2000 + 1) = G (G a 3).toNat (2000 + 1)) ∧ ((1 ≤ (G tb (2000 + (4 * k + 1))) ∧ (G tb (2000 + (4 * k + 1))) ≤ 600 ∧ 0 ≤ (G tb (2000 + (4 * k + 2))) ∧ (G tb (2000 + (4 * k + 2))) ≤ 23 ∧ 1 ≤ (G tb (2000 + (4 * k + 3))) ∧ (G tb (2000 + (4 * k + 3))) ≤ 99) ∧ ¬ (0 ≤ (G tb (2000 + (4 * k))) ∧ (G tb (2000 + (4 * k))) < G (G a 3).toNat (2000 + 0) ∧ ((-1) = -1 ∨ (0 ≤ (-1) ∧ (-1) < G (G a 3).toNat (2000 + 1)))) → rnk25 = -2 ∧ Gk25 (G a 3).toNat (2000 + 1) = G (G a 3).toNat (2000 + 1)) ∧ ((1 ≤ (G tb (2000 + (4 * k + 1))) ∧ (G tb (2000 + (4 * k + 1))) ≤ 600 ∧ 0 ≤ (G tb (2000 + (4 * k + 2))) ∧ (G tb (2000 + (4 * k + 2))) ≤ 23 ∧ 1 ≤ (G tb (2000 + (4 * k + 3))) ∧ (G tb (2000 + (4 * k + 3))) ≤ 99) ∧ (0 ≤ (G tb (2000 + (4 * k))) ∧ (G tb (2000 + (4 * k))) < G (G a 3).toNat (2000 + 0) ∧ ((-1) = -1 ∨ (0 ≤ (-1) ∧ (-1) < G (G a 3).toNat (2000 + 1)))) ∧ 10 ≤ G (G a 3).toNat (2000 + 1) → rnk25 = -5 ∧ Gk25 (G a 3).toNat (2000 + 1) = G (G a 3).toNat (2000 + 1)) ∧ ((1 ≤ (G tb (2000 + (4 * k + 1))) ∧ (G tb (2000 + (4 * k + 1))) ≤ 600 ∧ 0 ≤ (G tb (2000 + (4 * k + 2))) ∧ (G tb (2000 + (4 * k + 2))) ≤ 23 ∧ 1 ≤ (G tb (2000 + (4 * k + 3))) ∧ (G tb (2000 + (4 * k + 3))) ≤ 99) ∧ (0 ≤ (G tb (2000 + (4 * k))) ∧ (G tb (2000 + (4 * k))) < G (G a 3).toNat (2000 + 0) ∧ ((-1) = -1 ∨ (0 ≤ (-1) ∧ (-1) < G (G a 3).toNat (2000 + 1)))) ∧ G (G a 3).toNat (2000 + 1) < 10 → rnk25 = G (G a 3).toNat (2000 + 1) ∧ Gk25 (G a 3).toNat (2000 + 1) = G (G a 3).toNat (2000 + 1) + 1) := htk25
          rw [hwk25, show ((rw_ : Int)).toNat = rw_ from rfl, hv0k25, hv1k25] at htk25
          obtain ⟨vwk25, hvwk25⟩ : ∃ z0 : Int, Gk25 rw_ (2000 + 1) = z0 := ⟨_, rfl⟩
          rw [hvwk25] at htk25
          subst hPk25
          rw [hBk (4 * k), hBk (4 * k + 1), hBk (4 * k + 2), hBk (4 * k + 3)] at htk25
          have bq0 := hBk (4 * k)
          have bq1 := hBk (4 * k + 1)
          have bq2 := hBk (4 * k + 2)
          have bq3 := hBk (4 * k + 3)
          obtain ⟨t1, t2, t3, t4⟩ := htk25
          have hnx : (0 ≤ rnk25 ∧ vwk25 = Wf (k + 1) ∧ Wf (k + 1) = Wf k + 1) ∨ (rnk25 < 0 ∧ vwk25 = Wf (k + 1) ∧ Wf (k + 1) = Wf k) := by
            cases hzc : zR_b Bf (ln : Int) (pe : Int) (Wf k) (4 * k) with
            | true =>
              have h1 := hzb.mp hzc
              have h2 := hws.1 hzc
              have t5 := t4 (by clear t1 t2 t3 t4; omega)
              clear t1 t2 t3 t4
              left
              omega
            | false =>
              have h1 := mt hzb.mpr (by rw [hzc]; decide)
              have h2 := hws.2 hzc
              right
              by_cases c1 : (1 ≤ Bf (4 * k + 1) ∧ Bf (4 * k + 1) ≤ 600 ∧ 0 ≤ Bf (4 * k + 2) ∧ Bf (4 * k + 2) ≤ 23 ∧ 1 ≤ Bf (4 * k + 3) ∧ Bf (4 * k + 3) ≤ 99)
              · by_cases c2 : (0 ≤ Bf (4 * k) ∧ Bf (4 * k) < (pe : Int) ∧ ((-1 : Int) = -1 ∨ (0 ≤ (-1 : Int) ∧ (-1 : Int) < Wf k)))
                · by_cases c3 : Wf k < 10
                  · exfalso
                    clear t1 t2 t3 t4
                    exact h1 ⟨by omega, by omega, by omega, by omega, by omega, by omega, by omega, by omega, by omega⟩
                  · have t5 := t3 ⟨c1, c2, by omega⟩
                    clear t1 t2 t3 t4 h1 c1 c2
                    omega
                · have t5 := t2 ⟨c1, c2⟩
                  clear t1 t2 t3 t4 h1 c1 c2
                  omega
              · have t5 := t1 c1
                clear t1 t2 t3 t4 h1 c1
                omega
          clear t1 t2 t3 t4
          refine zp_if (pc := 82) (tgt := 91) hx hb (zd_X12_row (82, .ifCond .lt 9, 3, 0, []) (List.mem_of_getElem? (i := 55) rfl)) rfl (fun (hc53 : rnk25 < 0) => ?_) (fun (hc53 : ¬ (rnk25 < 0)) => ?_)
          · refine zp_load (pc := 91) hx hb (zd_X12_row (91, .aload_n 0, 1, 0, []) (List.mem_of_getElem? (i := 58) rfl)) rfl (j := 2) rfl ?_
            refine zp_dup (pc := 92) hx hb (zd_X12_row (92, .dup, 1, 0, []) (List.mem_of_getElem? (i := 59) rfl)) (show (2 : Nat) ≠ 1 by decide) ?_
            refine zp_getf (n := ((k : Int) - (Wf k - (wk : Int)))) (pc := 93) hx hb hE hw (zd_X12_row (93, .getfield 231, 3, 0, []) (List.mem_of_getElem? (i := 60) rfl)) (j := 29) rfl rfl rfl hp ((zp_nf hfrk25 hp rfl).trans e11) ?_
            refine zp_const (pc := 96) hx hb (zd_X12_row (96, .iconst 1, 1, 0, []) (List.mem_of_getElem? (i := 61) rfl)) rfl rfl ?_
            refine zp_add (n := (((k : Int) - (Wf k - (wk : Int))) + 1)) (pc := 97) hx hb (zd_X12_row (97, .iadd, 1, 0, []) (List.mem_of_getElem? (i := 62) rfl)) (by omega) (zp_r0 (by omega) (by omega)) ?_
            refine zp_putf (pc := 98) hx hb hE hw heff (zd_X12_row (98, .putfield 231, 3, 0, []) (List.mem_of_getElem? (i := 63) rfl)) (j := 29) rfl rfl rfl hp (zp_o0 (by omega) (by omega) (by omega) (by omega)) ?_
            refine zp_iinc (L' := [(3, 0, (4 * (k : Int) + 4)), (2, 0, (Wf k - (wk : Int))), (0, 2, (a : Int)), (1, 0, (ln : Int))]) (n := (4 * (k : Int) + 4)) (pc := 101) hx hb hnL (zd_X12_row (101, .iinc 3 4, 3, 0, []) (List.mem_of_getElem? (i := 64) rfl)) (j := 0) rfl (by omega) (zp_r0 (by omega) (by omega)) rfl rfl ?_
            refine zp_goto (tgt := 35) (pc := 104) hx hb (zd_X12_row (104, .goto (-69), 3, 0, []) (List.mem_of_getElem? (i := 65) rfl)) rfl ?_
            refine zp_drop (L' := [(3, 0, (4 * ((k + 1 : Nat) : Int))), (2, 0, (Wf (k + 1) - (wk : Int))), (0, 2, (a : Int)), (1, 0, (ln : Int))]) (by simp <;> omega) ?_
            exact ih (k + 1) _ (by omega) (by omega) (((zp_set_ne (Or.inr (by decide))).trans (((zp_nf hfrk25 hp rfl).trans e3)))) (((zp_set_ne (Or.inr (by decide))).trans (((zp_nf hfrk25 hp rfl).trans e12)))) (((zp_set_ne (Or.inr (by decide))).trans (((zp_nf hfrk25 hp rfl).trans e13)))) (((zp_set_ne (Or.inl (zp_pne qrw hp (by decide)))).trans (((zp_ne hfrk25 qrw_ (j := 0) rfl).trans n0)))) (fun j => (((zp_set_ne (Or.inl (zp_pne qtb hp (by decide)))).trans ((zp_nc hfrk25 qtb rfl (2000 + j))))).trans (hBk j)) ((((zp_set_ne (Or.inl (zp_pne qrw hp (by decide)))).trans (hvwk25))).trans (by omega)) ((zp_set_self).trans (by omega)) hl0
          · refine zp_iinc (L' := [(2, 0, ((Wf k - (wk : Int)) + 1)), (3, 0, (4 * (k : Int))), (0, 2, (a : Int)), (1, 0, (ln : Int))]) (n := ((Wf k - (wk : Int)) + 1)) (pc := 85) hx hb hnL (zd_X12_row (85, .iinc 2 1, 3, 0, []) (List.mem_of_getElem? (i := 56) rfl)) (j := 1) rfl (by omega) (zp_r0 (by omega) (by omega)) rfl rfl ?_
            refine zp_goto (tgt := 101) (pc := 88) hx hb (zd_X12_row (88, .goto 13, 3, 0, []) (List.mem_of_getElem? (i := 57) rfl)) rfl ?_
            refine zp_iinc (L' := [(3, 0, (4 * (k : Int) + 4)), (2, 0, ((Wf k - (wk : Int)) + 1)), (0, 2, (a : Int)), (1, 0, (ln : Int))]) (n := (4 * (k : Int) + 4)) (pc := 101) hx hb hnL (zd_X12_row (101, .iinc 3 4, 3, 0, []) (List.mem_of_getElem? (i := 64) rfl)) (j := 1) rfl (by omega) (zp_r0 (by omega) (by omega)) rfl rfl ?_
            refine zp_goto (tgt := 35) (pc := 104) hx hb (zd_X12_row (104, .goto (-69), 3, 0, []) (List.mem_of_getElem? (i := 65) rfl)) rfl ?_
            refine zp_drop (L' := [(3, 0, (4 * ((k + 1 : Nat) : Int))), (2, 0, (Wf (k + 1) - (wk : Int))), (0, 2, (a : Int)), (1, 0, (ln : Int))]) (by simp <;> omega) ?_
            exact ih (k + 1) _ (by omega) (by omega) (((zp_nf hfrk25 hp rfl).trans e3)) (((zp_nf hfrk25 hp rfl).trans e12)) (((zp_nf hfrk25 hp rfl).trans e13)) (((zp_ne hfrk25 qrw_ (j := 0) rfl).trans n0)) (fun j => ((zp_nc hfrk25 qtb rfl (2000 + j))).trans (hBk j)) ((hvwk25).trans (by omega)) ((((zp_nf hfrk25 hp rfl).trans e11)).trans (by omega)) hl0
  refine zp_load (pc := 0) hx hb (zd_X12_row (0, .aload_n 0, 1, 0, []) (List.mem_of_getElem? (i := 0) rfl)) rfl (j := 0) rfl ?_
  refine zp_const (pc := 1) hx hb (zd_X12_row (1, .iconst 0, 1, 0, []) (List.mem_of_getElem? (i := 1) rfl)) rfl rfl ?_
  refine zp_putf (pc := 2) hx hb hE hw heff (zd_X12_row (2, .putfield 161, 3, 0, []) (List.mem_of_getElem? (i := 2) rfl)) (j := 18) rfl rfl rfl hp (zp_o0 (by decide) (by decide) (by decide) (by decide)) ?_
  refine zp_load (pc := 5) hx hb (zd_X12_row (5, .aload_n 0, 1, 0, []) (List.mem_of_getElem? (i := 3) rfl)) rfl (j := 0) rfl ?_
  refine zp_getf (n := (ln : Int)) (pc := 6) hx hb hE hw (zd_X12_row (6, .getfield 228, 3, 0, []) (List.mem_of_getElem? (i := 4) rfl)) (j := 31) rfl rfl rfl hp ((zp_set_ne (Or.inr (by decide))).trans (hln)) ?_
  refine zp_store (L' := [(1, 0, (ln : Int)), (0, 2, (a : Int))]) (pc := 9) hx hb hnL (zd_X12_row (9, .istore_n 1, 1, 0, []) (List.mem_of_getElem? (i := 5) rfl)) rfl rfl rfl ?_
  refine zp_load (pc := 10) hx hb (zd_X12_row (10, .aload_n 0, 1, 0, []) (List.mem_of_getElem? (i := 6) rfl)) rfl (j := 1) rfl ?_
  refine zp_const (pc := 11) hx hb (zd_X12_row (11, .iconst 0, 1, 0, []) (List.mem_of_getElem? (i := 7) rfl)) rfl rfl ?_
  refine zp_putf (pc := 12) hx hb hE hw heff (zd_X12_row (12, .putfield 228, 3, 0, []) (List.mem_of_getElem? (i := 8) rfl)) (j := 31) rfl rfl rfl hp (zp_o0 (by decide) (by decide) (by decide) (by decide)) ?_
  refine zp_load (pc := 15) hx hb (zd_X12_row (15, .iload_n 1, 1, 0, []) (List.mem_of_getElem? (i := 9) rfl)) rfl (j := 0) rfl ?_
  refine zp_if (pc := 16) (tgt := 26) hx hb (zd_X12_row (16, .ifCond .ne 10, 3, 0, []) (List.mem_of_getElem? (i := 10) rfl)) rfl (fun (hc54 : ¬ (ln : Int) = 0) => ?_) (fun (hc54 : ¬ (¬ (ln : Int) = 0)) => ?_)
  · refine zp_load (pc := 26) hx hb (zd_X12_row (26, .aload_n 0, 1, 0, []) (List.mem_of_getElem? (i := 15) rfl)) rfl (j := 1) rfl ?_
    refine zp_const (pc := 27) hx hb (zd_X12_row (27, .iconst 0, 1, 0, []) (List.mem_of_getElem? (i := 16) rfl)) rfl rfl ?_
    refine zp_putf (pc := 28) hx hb hE hw heff (zd_X12_row (28, .putfield 231, 3, 0, []) (List.mem_of_getElem? (i := 17) rfl)) (j := 29) rfl rfl rfl hp (zp_o0 (by decide) (by decide) (by decide) (by decide)) ?_
    refine zp_const (pc := 31) hx hb (zd_X12_row (31, .iconst 0, 1, 0, []) (List.mem_of_getElem? (i := 18) rfl)) rfl rfl ?_
    refine zp_store (L' := [(2, 0, 0), (1, 0, (ln : Int)), (0, 2, (a : Int))]) (pc := 32) hx hb hnL (zd_X12_row (32, .istore_n 2, 1, 0, []) (List.mem_of_getElem? (i := 19) rfl)) rfl rfl rfl ?_
    refine zp_const (pc := 33) hx hb (zd_X12_row (33, .iconst 0, 1, 0, []) (List.mem_of_getElem? (i := 20) rfl)) rfl rfl ?_
    refine zp_store (L' := [(3, 0, 0), (2, 0, 0), (1, 0, (ln : Int)), (0, 2, (a : Int))]) (pc := 34) hx hb hnL (zd_X12_row (34, .istore_n 3, 1, 0, []) (List.mem_of_getElem? (i := 21) rfl)) rfl rfl rfl ?_
    refine zp_drop (L' := [(3, 0, (4 * ((0 : Nat) : Int))), (2, 0, (Wf 0 - (wk : Int))), (0, 2, (a : Int)), (1, 0, (ln : Int))]) (by simp <;> omega) ?_
    exact loop 102 0 _ (by omega) (by omega) (((zp_set_ne (Or.inr (by decide))).trans ((zp_set_ne (Or.inr (by decide))).trans ((zp_set_ne (Or.inr (by decide))).trans (hrw_))))) (((zp_set_ne (Or.inr (by decide))).trans ((zp_set_ne (Or.inr (by decide))).trans ((zp_set_ne (Or.inr (by decide))).trans (htb))))) (((zp_set_ne (Or.inr (by decide))).trans (zp_set_self))) (((zp_set_ne (Or.inl (zp_pne qrw_ hp (by decide)))).trans ((zp_set_ne (Or.inl (zp_pne qrw_ hp (by decide)))).trans ((zp_set_ne (Or.inl (zp_pne qrw_ hp (by decide)))).trans (hpe))))) (fun j => (((zp_set_ne (Or.inl (zp_pne qtb hp (by decide)))).trans ((zp_set_ne (Or.inl (zp_pne qtb hp (by decide)))).trans ((zp_set_ne (Or.inl (zp_pne qtb hp (by decide)))))))).trans (by rw [hBf])) ((((zp_set_ne (Or.inl (zp_pne qrw_ hp (by decide)))).trans ((zp_set_ne (Or.inl (zp_pne qrw_ hp (by decide)))).trans ((zp_set_ne (Or.inl (zp_pne qrw_ hp (by decide)))).trans (hwk))))).trans (by omega)) ((zp_set_self).trans (by omega)) (by omega)
  · refine zp_load (pc := 19) hx hb (zd_X12_row (19, .aload_n 0, 1, 0, []) (List.mem_of_getElem? (i := 11) rfl)) rfl (j := 1) rfl ?_
    refine zp_const (pc := 20) hx hb (zd_X12_row (20, .bipush (-6), 2, 0, []) (List.mem_of_getElem? (i := 12) rfl)) rfl rfl ?_
    refine zp_call (pc := 22) (how := 0) (idx := 170) (mi := 183) (S := []) hx hb hE hw heff hrm (zX_te13 hW) rfl (j := 0) rfl rfl (by decide +kernel) (zd_X12_row (22, .invokevirtual 170, 3, 0, []) (List.mem_of_getElem? (i := 13) rfl)) [(a : Int), (-6)] rfl ⟨zp_o2 hp, zp_o0 (by omega) (by omega) (by omega) (by omega), trivial⟩ (Nat.le_of_ble_eq_true rfl) trivial (fun al hal rnr26 Pr26 Gr26 hextr26 hfrr26 hokr26 hcsr26 hpsir26 => ?_)
    obtain rfl := List.mem_singleton.mp hal
    have hrr26 := zp_int (hokr26 _ rfl).1
    have yar26 := hextr26 _ _ hp
    have yrw_r26 := hextr26 _ _ qrw_
    have ytbr26 := hextr26 _ _ qtb
    have htr26 : rnr26 = (-6) := hpsir26.2
    have ez0 : Gr26 rw_ (2000 + 1) = (wk : Int) := ((zp_nc hfrr26 qrw_ rfl (2000 + 1)).trans ((zp_set_ne (Or.inl (zp_pne qrw_ hp (by decide)))).trans ((zp_set_ne (Or.inl (zp_pne qrw_ hp (by decide)))).trans (hwk))))
    have ez1 : Gr26 a 11 = du := ((zp_nf hfrr26 hp rfl).trans ((zp_set_ne (Or.inr (by decide))).trans ((zp_set_ne (Or.inr (by decide))).trans (hdu))))
    have ez2 : Gr26 a 13 = 0 := ((zp_nf hfrr26 hp rfl).trans zp_set_self)
    refine zp_iret (pc := 25) (n := rnr26) hx hb hE hQ hU5 rfl (by decide) (zd_X12_row (25, .ireturn, 1, 0, []) (List.mem_of_getElem? (i := 14) rfl)) (j := 0) rfl (zp_o0 (by omega) (by omega) (by omega) (by omega)) ?_
    rw [hps]
    show ((zp_n u.2.1 a 13) = 0 → rnr26 = -6 ∧ (Gr26 (zp_n u.2.1 a 3).toNat (2000 + 1)) = (zp_n u.2.1 (zp_n u.2.1 a 3).toNat (2000 + 1)) ∧ (Gr26 a 11) = (zp_n u.2.1 a 11)) ∧ (¬ (zp_n u.2.1 a 13) = 0 → rnr26 = zR_w (fun j => zp_n u.2.1 (zp_n u.2.1 a 12).toNat (2000 + j)) (zp_n u.2.1 a 13) (zp_n u.2.1 (zp_n u.2.1 a 3).toNat (2000 + 0)) (zp_n u.2.1 (zp_n u.2.1 a 3).toNat (2000 + 1)) (((zp_n u.2.1 a 13).toNat + 3) / 4) - (zp_n u.2.1 (zp_n u.2.1 a 3).toNat (2000 + 1)) ∧ (Gr26 (zp_n u.2.1 a 3).toNat (2000 + 1)) = zR_w (fun j => zp_n u.2.1 (zp_n u.2.1 a 12).toNat (2000 + j)) (zp_n u.2.1 a 13) (zp_n u.2.1 (zp_n u.2.1 a 3).toNat (2000 + 0)) (zp_n u.2.1 (zp_n u.2.1 a 3).toNat (2000 + 1)) (((zp_n u.2.1 a 13).toNat + 3) / 4) ∧ (Gr26 a 11) = (((((zp_n u.2.1 a 13).toNat + 3) / 4 : Nat) : Int)) - (zR_w (fun j => zp_n u.2.1 (zp_n u.2.1 a 12).toNat (2000 + j)) (zp_n u.2.1 a 13) (zp_n u.2.1 (zp_n u.2.1 a 3).toNat (2000 + 0)) (zp_n u.2.1 (zp_n u.2.1 a 3).toNat (2000 + 1)) (((zp_n u.2.1 a 13).toNat + 3) / 4) - (zp_n u.2.1 (zp_n u.2.1 a 3).toNat (2000 + 1)))) ∧ (Gr26 a 13) = 0
    rw [hrt, htv, hln, hpe, hwk, ← hBf, ← hWf, Int.toNat_natCast]
    omega
def zK_mfo : zk_K := (zt_mn 206, prog_14_method_32_code, 3, (Option.none : Option Jvm.ClassFile.FieldType), 1, 12, [(2, 13, 0, 0), (0, 0, (-2147483648), 2147483647)], [(none, [])], [(66, 1001, 0), (13, 13, 0)], (0, 0, 0, 0))
def zφ_mfo : (Nat → Option Nat) → (Nat → Nat → Int) → List Int → Prop := fun _ G ps => G (zp_0 ps) 13 ≤ 396
def zψ_mfo : (Nat → Option Nat) → (Nat → Nat → Int) → List Int → (Nat → Option Nat) → (Nat → Nat → Int) → Int → Prop := fun P G ps P' G' rn => P' = P ∧ G' (zp_0 ps) 13 = G (zp_0 ps) 13 + 4 ∧ ∀ j : Nat, G' (G (zp_0 ps) 12).toNat (2000 + j) = if (G (zp_0 ps) 13 : Int) ≤ (j : Int) ∧ (j : Int) < G (zp_0 ps) 13 + 4 then zF_c (ps.getD 1 0) (24 - 8 * ((j : Int) - G (zp_0 ps) 13)) else G (G (zp_0 ps) 12).toNat (2000 + j)
theorem zX_mfo {l : Launch} {w : zk_W} (hW : zh_W w) : zk_metX l w zt_dv zt_TB zK_mfo (zp_A zφ_mfo) (zp_B zψ_mfo) ∧ zk_cok w zt_TB zK_mfo := by
  refine zp_methX (cn := "WoundTownModel") zp_lkall hW (pl := 1660) rfl (by decide +kernel) (fun p e R s m args below meth c Q u hx hb hE hQ hU5 heff hnL hok hφ => ?_)
  have hw := hW.1
  obtain ⟨p0, p1, hps, k0, k1⟩ := zp_ps2 hok
  obtain ⟨a, rfl, hp⟩ := zp_this k0
  have hrm : zk_Kr (zk_ev (zt_types, zp_lk, zt_dv, [], [], zp_lc, zK_mfo)) = zk_Kr zK_mfo := rfl
  rw [hps] at hφ ⊢
  have hi1 := zp_int k1
  show zp_J p l e R s m args below meth c Q w u [] 0 [(0, 2, (a : Int)), (1, 0, p1)] [] u.1 (zp_n u.2.1)
  have hφ : zp_n u.2.1 a 13 ≤ 396 := hφ
  refine zp_kn (k := 13) (a := a) hw (show zp_fd 13 13 = some (12, 0, 0, 0, 400) from rfl) rfl hp (fun hkl0 => ?_)
  obtain ⟨l0, hl0⟩ := zp_nat (zp_int hkl0).1
  have hl0b := zp_int hkl0
  rw [hl0] at hl0b
  rw [hl0] at hφ
  refine zp_kn (k := 12) (a := a) hw (show zp_fd 13 12 = some (12, 2, 66, 0, 0) from rfl) rfl hp (fun hktb => ?_)
  obtain ⟨tb, htb, qtb⟩ := zp_this hktb
  have htv : (zp_n u.2.1 a 12).toNat = tb := by rw [htb, Int.toNat_natCast]
  have loop : ∀ (n k : Nat) (G : Nat → Nat → Int), 4 - k < n → k ≤ 4 → G a 12 = (tb : Int) → G a 13 = ((l0 + k : Nat) : Int) → (∀ j : Nat, G tb (2000 + j) = if l0 ≤ j ∧ j < l0 + k then zF_c p1 (24 - 8 * ((j : Int) - (l0 : Int))) else zp_n u.2.1 tb (2000 + j)) → zp_J p l e R s m args below meth c Q w u [] 3 [(2, 0, (24 - 8 * (k : Int))), (0, 2, (a : Int)), (1, 0, p1)] [] u.1 G := by
    intro n
    induction n with
    | zero => intro k G h; exact absurd h (Nat.not_lt_zero _)
    | succ n ih =>
      intro k G hn hk e0 e1 hB
      obtain ⟨ln, hln⟩ : ∃ ln : Nat, l0 + k = ln := ⟨_, rfl⟩
      rw [hln] at e1
      refine zp_load (pc := 3) hx hb (zd_X12_four (3, .iload_n 2, 1, 0, []) (List.mem_of_getElem? (i := 2) rfl)) rfl (j := 0) rfl ?_
      refine zp_if (pc := 4) (tgt := 39) hx hb (zd_X12_four (4, .ifCond .lt 35, 3, 0, []) (List.mem_of_getElem? (i := 3) rfl)) rfl (fun (hc55 : (24 - 8 * (k : Int)) < 0) => ?_) (fun (hc55 : ¬ ((24 - 8 * (k : Int)) < 0)) => ?_)
      · have hk4 : k = 4 := by omega
        refine zp_vret (pc := 39) hx hb hE hQ hU5 rfl (by decide) (zd_X12_four (39, .return_, 1, 0, []) (List.mem_of_getElem? (i := 22) rfl)) (j := 0) rfl ?_
        rw [hps]
        refine ⟨rfl, ?_, fun j => ?_⟩
        · show G a 13 = zp_n u.2.1 a 13 + 4
          rw [e1, hl0]
          omega
        · show G (zp_n u.2.1 a 12).toNat (2000 + j) = if zp_n u.2.1 a 13 ≤ (j : Int) ∧ (j : Int) < zp_n u.2.1 a 13 + 4 then zF_c p1 (24 - 8 * ((j : Int) - zp_n u.2.1 a 13)) else zp_n u.2.1 (zp_n u.2.1 a 12).toNat (2000 + j)
          rw [htv, hl0, hB j]
          by_cases hj : l0 ≤ j ∧ j < l0 + k
          · rw [if_pos hj, if_pos (by omega)]
          · rw [if_neg hj, if_neg (by omega)]
      · refine zp_load (pc := 7) hx hb (zd_X12_four (7, .aload_n 0, 1, 0, []) (List.mem_of_getElem? (i := 4) rfl)) rfl (j := 1) rfl ?_
        refine zp_getf (n := (tb : Int)) (pc := 8) hx hb hE hw (zd_X12_four (8, .getfield 35, 3, 0, []) (List.mem_of_getElem? (i := 5) rfl)) (j := 30) rfl rfl rfl hp e0 ?_
        refine zp_load (pc := 11) hx hb (zd_X12_four (11, .aload_n 0, 1, 0, []) (List.mem_of_getElem? (i := 6) rfl)) rfl (j := 1) rfl ?_
        refine zp_getf (n := (ln : Int)) (pc := 12) hx hb hE hw (zd_X12_four (12, .getfield 228, 3, 0, []) (List.mem_of_getElem? (i := 7) rfl)) (j := 31) rfl rfl rfl hp e1 ?_
        refine zp_load (pc := 15) hx hb (zd_X12_four (15, .iload_n 1, 1, 0, []) (List.mem_of_getElem? (i := 8) rfl)) rfl (j := 2) rfl ?_
        refine zp_load (pc := 16) hx hb (zd_X12_four (16, .iload_n 2, 1, 0, []) (List.mem_of_getElem? (i := 9) rfl)) rfl (j := 0) rfl ?_
        refine zp_binx (o := 7) (n := ((zk_bn 7 (Int32.ofInt p1) (Int32.ofInt (24 - 8 * (k : Int)))).toInt)) (pc := 17) hx hb (zd_X12_four (17, .ishr, 1, 0, []) (List.mem_of_getElem? (i := 10) rfl)) rfl (by decide) rfl ?_
        refine zp_const (pc := 18) hx hb (zd_X12_four (18, .sipush 255, 3, 0, []) (List.mem_of_getElem? (i := 11) rfl)) rfl rfl ?_
        have hze : zF_m p1 (24 - 8 * (k : Int)) = zF_c p1 (24 - 8 * (k : Int)) := (zF_eq (by omega)).symm
        refine zp_binx (o := 3) (n := (zF_c p1 (24 - 8 * (k : Int)))) (pc := 21) hx hb (zd_X12_four (21, .iand, 1, 0, []) (List.mem_of_getElem? (i := 12) rfl)) rfl (by decide) hze ?_
        have hzf := zF_rg (v := p1) (s := 24 - 8 * (k : Int))
        refine zp_iast (j := ln) (pc := 22) hx hb hw heff (zd_X12_four (22, .iastore, 1, 0, []) (List.mem_of_getElem? (i := 13) rfl)) (show zp_ia 1 66 = some (400, 0, 0, 0, 255) from rfl) qtb (by omega) (by omega) (zp_o0 (by omega) (by omega) (by omega) (by omega)) rfl ?_
        refine zp_load (pc := 23) hx hb (zd_X12_four (23, .aload_n 0, 1, 0, []) (List.mem_of_getElem? (i := 14) rfl)) rfl (j := 1) rfl ?_
        refine zp_dup (pc := 24) hx hb (zd_X12_four (24, .dup, 1, 0, []) (List.mem_of_getElem? (i := 15) rfl)) (show (2 : Nat) ≠ 1 by decide) ?_
        refine zp_getf (n := (ln : Int)) (pc := 25) hx hb hE hw (zd_X12_four (25, .getfield 228, 3, 0, []) (List.mem_of_getElem? (i := 16) rfl)) (j := 31) rfl rfl rfl hp ((zp_set_ne (Or.inl (zp_pne hp qtb (by decide)))).trans (e1)) ?_
        refine zp_const (pc := 28) hx hb (zd_X12_four (28, .iconst 1, 1, 0, []) (List.mem_of_getElem? (i := 17) rfl)) rfl rfl ?_
        refine zp_add (n := ((ln : Int) + 1)) (pc := 29) hx hb (zd_X12_four (29, .iadd, 1, 0, []) (List.mem_of_getElem? (i := 18) rfl)) (by omega) (zp_r0 (by omega) (by omega)) ?_
        refine zp_putf (pc := 30) hx hb hE hw heff (zd_X12_four (30, .putfield 228, 3, 0, []) (List.mem_of_getElem? (i := 19) rfl)) (j := 31) rfl rfl rfl hp (zp_o0 (by omega) (by omega) (by omega) (by omega)) ?_
        refine zp_iinc (L' := [(2, 0, ((-8) * (k : Int) + 16)), (0, 2, (a : Int)), (1, 0, p1)]) (n := ((-8) * (k : Int) + 16)) (pc := 33) hx hb hnL (zd_X12_four (33, .iinc 2 (-8), 3, 0, []) (List.mem_of_getElem? (i := 20) rfl)) (j := 0) rfl (by omega) (zp_r0 (by omega) (by omega)) rfl rfl ?_
        refine zp_goto (tgt := 3) (pc := 36) hx hb (zd_X12_four (36, .goto (-33), 3, 0, []) (List.mem_of_getElem? (i := 21) rfl)) rfl ?_
        refine zp_drop (L' := [(2, 0, (24 - 8 * ((k + 1 : Nat) : Int))), (0, 2, (a : Int)), (1, 0, p1)]) (by simp <;> omega) ?_
        refine ih (k + 1) _ (by omega) (by omega) (((zp_set_ne (Or.inr (by decide))).trans ((zp_set_ne (Or.inl (zp_pne hp qtb (by decide)))).trans (e0)))) ((zp_set_self).trans (by omega)) (fun j => ?_)
        rw [zp_set_ne (Or.inl (zp_pne qtb hp (by decide))), zp_set_el]
        by_cases hj : j = ln
        · rw [if_pos hj, if_pos (by omega)]
          rw [show 24 - 8 * ((j : Int) - (l0 : Int)) = 24 - 8 * (k : Int) by omega]
        · rw [if_neg hj, hB j]
          by_cases hj2 : l0 ≤ j ∧ j < l0 + k
          · rw [if_pos hj2, if_pos (by omega)]
          · rw [if_neg hj2, if_neg (by omega)]
  refine zp_const (pc := 0) hx hb (zd_X12_four (0, .bipush 24, 2, 0, []) (List.mem_of_getElem? (i := 0) rfl)) rfl rfl ?_
  refine zp_store (L' := [(2, 0, 24), (0, 2, (a : Int)), (1, 0, p1)]) (pc := 2) hx hb hnL (zd_X12_four (2, .istore_n 2, 1, 0, []) (List.mem_of_getElem? (i := 1) rfl)) rfl rfl rfl ?_
  refine zp_drop (L' := [(2, 0, (24 - 8 * ((0 : Nat) : Int))), (0, 2, (a : Int)), (1, 0, p1)]) (by simp) ?_
  exact loop 5 0 _ (by omega) (by omega) htb hl0 (fun j => by rw [if_neg (by omega)])
def zK_mfd : zk_K := (zt_mn 205, prog_14_method_33_code, 6, (Option.some Jvm.ClassFile.FieldType.int), 1, 12, [(2, 13, 0, 0), (0, 0, (-2147483648), 2147483647), (0, 0, (-2147483648), 2147483647), (0, 0, (-2147483648), 2147483647), (0, 0, (-2147483648), 2147483647), (0, 0, (-2147483648), 2147483647)], [(some (0, 0, (-1), 400), [])], [(13, 0, 0), (66, 1001, 0), (13, 13, 0)], (1, 40, 0, 0))
def zψ_mfd : (Nat → Option Nat) → (Nat → Nat → Int) → List Int → (Nat → Option Nat) → (Nat → Nat → Int) → Int → Prop := fun P G ps P' G' rn => (G (zp_0 ps) 13 ≤ 380 → rn = G (zp_0 ps) 13 + 20 ∧ G' (zp_0 ps) 13 = G (zp_0 ps) 13 + 20 ∧ ∀ j : Nat, G' (G (zp_0 ps) 12).toNat (2000 + j) = zF_5 (fun j => G (G (zp_0 ps) 12).toNat (2000 + j)) (G (zp_0 ps) 13) (ps.getD 1 0) (ps.getD 2 0) (ps.getD 3 0) (ps.getD 4 0) (ps.getD 5 0) j) ∧ (¬ (G (zp_0 ps) 13 ≤ 380) → rn = -1 ∧ G' (zp_0 ps) 13 = G (zp_0 ps) 13 ∧ ∀ j : Nat, G' (G (zp_0 ps) 12).toNat (2000 + j) = (fun j => G (G (zp_0 ps) 12).toNat (2000 + j)) j)
theorem zX_mfd {l : Launch} {w : zk_W} (hW : zh_W w) : zk_metX l w zt_dv zt_TB zK_mfd (zp_A zp_tA) (zp_B zψ_mfd) ∧ zk_cok w zt_TB zK_mfd := by
  refine zp_methX (cn := "WoundTownModel") zp_lkall hW (pl := 1656) rfl (by decide +kernel) (fun p e R s m args below meth c Q u hx hb hE hQ hU5 heff hnL hok hφ => ?_)
  have hw := hW.1
  obtain ⟨p0, p1, p2, p3, p4, p5, hps, k0, k1, k2, k3, k4, k5⟩ := zp_ps6 hok
  obtain ⟨a, rfl, hp⟩ := zp_this k0
  have hrm : zk_Kr (zk_ev (zt_types, zp_lk, zt_dv, [], [], zp_lc, zK_mfd)) = zk_Kr zK_mfd := rfl
  rw [hps] at hφ ⊢
  have hi1 := zp_int k1
  have hi2 := zp_int k2
  have hi3 := zp_int k3
  have hi4 := zp_int k4
  have hi5 := zp_int k5
  show zp_J p l e R s m args below meth c Q w u [] 0 [(0, 2, (a : Int)), (1, 0, p1), (2, 0, p2), (3, 0, p3), (4, 0, p4), (5, 0, p5)] [] u.1 (zp_n u.2.1)
  refine zp_kn (k := 13) (a := a) hw (show zp_fd 13 13 = some (12, 0, 0, 0, 400) from rfl) rfl hp (fun hkn0 => ?_)
  obtain ⟨n0, hn0⟩ : ∃ z0 : Int, (zp_n u.2.1) a 13 = z0 := ⟨_, rfl⟩
  have hn0b := zp_int hkn0
  rw [hn0] at hn0b
  refine zp_kn (k := 12) (a := a) hw (show zp_fd 13 12 = some (12, 2, 66, 0, 0) from rfl) rfl hp (fun hktb => ?_)
  obtain ⟨tb, htb, qtb⟩ := zp_this hktb
  have htv : (zp_n u.2.1 a 12).toNat = tb := by rw [htb, Int.toNat_natCast]
  refine zp_load (pc := 0) hx hb (zd_X12_feed (0, .aload_n 0, 1, 0, []) (List.mem_of_getElem? (i := 0) rfl)) rfl (j := 0) rfl ?_
  refine zp_const (pc := 1) hx hb (zd_X12_feed (1, .iconst 0, 1, 0, []) (List.mem_of_getElem? (i := 1) rfl)) rfl rfl ?_
  refine zp_putf (pc := 2) hx hb hE hw heff (zd_X12_feed (2, .putfield 161, 3, 0, []) (List.mem_of_getElem? (i := 2) rfl)) (j := 18) rfl rfl rfl hp (zp_o0 (by decide) (by decide) (by decide) (by decide)) ?_
  refine zp_load (pc := 5) hx hb (zd_X12_feed (5, .aload_n 0, 1, 0, []) (List.mem_of_getElem? (i := 3) rfl)) rfl (j := 0) rfl ?_
  refine zp_getf (n := n0) (pc := 6) hx hb hE hw (zd_X12_feed (6, .getfield 228, 3, 0, []) (List.mem_of_getElem? (i := 4) rfl)) (j := 31) rfl rfl rfl hp ((zp_set_ne (Or.inr (by decide))).trans (hn0)) ?_
  refine zp_const (pc := 9) hx hb (zd_X12_feed (9, .bipush 20, 2, 0, []) (List.mem_of_getElem? (i := 5) rfl)) rfl rfl ?_
  refine zp_add (n := (n0 + 20)) (pc := 11) hx hb (zd_X12_feed (11, .iadd, 1, 0, []) (List.mem_of_getElem? (i := 6) rfl)) (by omega) (zp_r0 (by omega) (by omega)) ?_
  refine zp_const (pc := 12) hx hb (zd_X12_feed (12, .sipush 400, 3, 0, []) (List.mem_of_getElem? (i := 7) rfl)) rfl rfl ?_
  refine zp_icmp (pc := 15) (tgt := 20) hx hb (zd_X12_feed (15, .if_icmp .le 5, 3, 0, []) (List.mem_of_getElem? (i := 8) rfl)) rfl (fun (hc56 : (n0 + 20) ≤ 400) => ?_) (fun (hc56 : ¬ ((n0 + 20) ≤ 400)) => ?_)
  · refine zp_load (pc := 20) hx hb (zd_X12_feed (20, .aload_n 0, 1, 0, []) (List.mem_of_getElem? (i := 11) rfl)) rfl (j := 0) rfl ?_
    refine zp_load (pc := 21) hx hb (zd_X12_feed (21, .iload_n 1, 1, 0, []) (List.mem_of_getElem? (i := 12) rfl)) rfl (j := 1) rfl ?_
    have qf0 : (zp_set (zp_n u.2.1) a 0 0) a 13 = n0 := ((zp_set_ne (Or.inr (by decide))).trans (hn0))
    have zf0 : (zp_set (zp_n u.2.1) a 0 0) a 12 = (tb : Int) := ((zp_set_ne (Or.inr (by decide))).trans (htb))
    refine zp_call (pc := 22) (how := 0) (idx := 234) (mi := 206) (S := []) hx hb hE hw heff hrm (zX_mfo hW) rfl (j := 11) rfl rfl (by decide +kernel) (zd_X12_feed (22, .invokevirtual 234, 3, 0, []) (List.mem_of_getElem? (i := 13) rfl)) [(a : Int), p1] rfl ⟨zp_o2 hp, k1, trivial⟩ (Nat.le_of_ble_eq_true rfl) (show (zp_set (zp_n u.2.1) a 0 0) a 13 ≤ 396 by omega) (fun al hal rnf0 Pf0 Gf0 hextf0 hfrf0 hokf0 hcsf0 hpsif0 => ?_)
    obtain rfl := List.mem_singleton.mp hal
    have yaf0 := hextf0 _ _ hp
    have ytbf0 := hextf0 _ _ qtb
    obtain ⟨hPf0, htf0, hbf0⟩ := hpsif0
    subst hPf0
    have htf0 : Gf0 a 13 = (zp_set (zp_n u.2.1) a 0 0) a 13 + 4 := htf0
    have ef0 : Gf0 a 13 = (n0 + 4) := by omega
    have hbf0 : ∀ j : Nat, Gf0 ((zp_set (zp_n u.2.1) a 0 0) a 12).toNat (2000 + j) = if (zp_set (zp_n u.2.1) a 0 0) a 13 ≤ (j : Int) ∧ (j : Int) < (zp_set (zp_n u.2.1) a 0 0) a 13 + 4 then zF_c p1 (24 - 8 * ((j : Int) - (zp_set (zp_n u.2.1) a 0 0) a 13)) else (zp_set (zp_n u.2.1) a 0 0) ((zp_set (zp_n u.2.1) a 0 0) a 12).toNat (2000 + j) := hbf0
    rw [zf0, qf0, show ((tb : Int)).toNat = tb from rfl] at hbf0
    refine zp_load (pc := 25) hx hb (zd_X12_feed (25, .aload_n 0, 1, 0, []) (List.mem_of_getElem? (i := 14) rfl)) rfl (j := 0) rfl ?_
    refine zp_load (pc := 26) hx hb (zd_X12_feed (26, .iload_n 2, 1, 0, []) (List.mem_of_getElem? (i := 15) rfl)) rfl (j := 2) rfl ?_
    have qf1 : Gf0 a 13 = (n0 + 4) := ef0
    have zf1 : Gf0 a 12 = (tb : Int) := ((zp_nf hfrf0 hp rfl).trans ((zp_set_ne (Or.inr (by decide))).trans (htb)))
    refine zp_call (pc := 27) (how := 0) (idx := 234) (mi := 206) (S := []) hx hb hE hw heff hrm (zX_mfo hW) rfl (j := 11) rfl rfl (by decide +kernel) (zd_X12_feed (27, .invokevirtual 234, 3, 0, []) (List.mem_of_getElem? (i := 16) rfl)) [(a : Int), p2] rfl ⟨zp_o2 hp, k2, trivial⟩ (Nat.le_of_ble_eq_true rfl) (show Gf0 a 13 ≤ 396 by omega) (fun al hal rnf1 Pf1 Gf1 hextf1 hfrf1 hokf1 hcsf1 hpsif1 => ?_)
    obtain rfl := List.mem_singleton.mp hal
    have yaf1 := hextf1 _ _ hp
    have ytbf1 := hextf1 _ _ qtb
    obtain ⟨hPf1, htf1, hbf1⟩ := hpsif1
    subst hPf1
    have htf1 : Gf1 a 13 = Gf0 a 13 + 4 := htf1
    have ef1 : Gf1 a 13 = (n0 + 8) := by omega
    have hbf1 : ∀ j : Nat, Gf1 (Gf0 a 12).toNat (2000 + j) = if Gf0 a 13 ≤ (j : Int) ∧ (j : Int) < Gf0 a 13 + 4 then zF_c p2 (24 - 8 * ((j : Int) - Gf0 a 13)) else Gf0 (Gf0 a 12).toNat (2000 + j) := hbf1
    rw [zf1, qf1, show ((tb : Int)).toNat = tb from rfl] at hbf1
    refine zp_load (pc := 30) hx hb (zd_X12_feed (30, .aload_n 0, 1, 0, []) (List.mem_of_getElem? (i := 17) rfl)) rfl (j := 0) rfl ?_
    refine zp_load (pc := 31) hx hb (zd_X12_feed (31, .iload_n 3, 1, 0, []) (List.mem_of_getElem? (i := 18) rfl)) rfl (j := 3) rfl ?_
    have qf2 : Gf1 a 13 = (n0 + 8) := ef1
    have zf2 : Gf1 a 12 = (tb : Int) := ((zp_nf hfrf1 hp rfl).trans ((zp_nf hfrf0 hp rfl).trans ((zp_set_ne (Or.inr (by decide))).trans (htb))))
    refine zp_call (pc := 32) (how := 0) (idx := 234) (mi := 206) (S := []) hx hb hE hw heff hrm (zX_mfo hW) rfl (j := 11) rfl rfl (by decide +kernel) (zd_X12_feed (32, .invokevirtual 234, 3, 0, []) (List.mem_of_getElem? (i := 19) rfl)) [(a : Int), p3] rfl ⟨zp_o2 hp, k3, trivial⟩ (Nat.le_of_ble_eq_true rfl) (show Gf1 a 13 ≤ 396 by omega) (fun al hal rnf2 Pf2 Gf2 hextf2 hfrf2 hokf2 hcsf2 hpsif2 => ?_)
    obtain rfl := List.mem_singleton.mp hal
    have yaf2 := hextf2 _ _ hp
    have ytbf2 := hextf2 _ _ qtb
    obtain ⟨hPf2, htf2, hbf2⟩ := hpsif2
    subst hPf2
    have htf2 : Gf2 a 13 = Gf1 a 13 + 4 := htf2
    have ef2 : Gf2 a 13 = (n0 + 12) := by omega
    have hbf2 : ∀ j : Nat, Gf2 (Gf1 a 12).toNat (2000 + j) = if Gf1 a 13 ≤ (j : Int) ∧ (j : Int) < Gf1 a 13 + 4 then zF_c p3 (24 - 8 * ((j : Int) - Gf1 a 13)) else Gf1 (Gf1 a 12).toNat (2000 + j) := hbf2
    rw [zf2, qf2, show ((tb : Int)).toNat = tb from rfl] at hbf2
    refine zp_load (pc := 35) hx hb (zd_X12_feed (35, .aload_n 0, 1, 0, []) (List.mem_of_getElem? (i := 20) rfl)) rfl (j := 0) rfl ?_
    refine zp_load (pc := 36) hx hb (zd_X12_feed (36, .iload 4, 2, 0, []) (List.mem_of_getElem? (i := 21) rfl)) rfl (j := 4) rfl ?_
    have qf3 : Gf2 a 13 = (n0 + 12) := ef2
    have zf3 : Gf2 a 12 = (tb : Int) := ((zp_nf hfrf2 hp rfl).trans ((zp_nf hfrf1 hp rfl).trans ((zp_nf hfrf0 hp rfl).trans ((zp_set_ne (Or.inr (by decide))).trans (htb)))))
    refine zp_call (pc := 38) (how := 0) (idx := 234) (mi := 206) (S := []) hx hb hE hw heff hrm (zX_mfo hW) rfl (j := 11) rfl rfl (by decide +kernel) (zd_X12_feed (38, .invokevirtual 234, 3, 0, []) (List.mem_of_getElem? (i := 22) rfl)) [(a : Int), p4] rfl ⟨zp_o2 hp, k4, trivial⟩ (Nat.le_of_ble_eq_true rfl) (show Gf2 a 13 ≤ 396 by omega) (fun al hal rnf3 Pf3 Gf3 hextf3 hfrf3 hokf3 hcsf3 hpsif3 => ?_)
    obtain rfl := List.mem_singleton.mp hal
    have yaf3 := hextf3 _ _ hp
    have ytbf3 := hextf3 _ _ qtb
    obtain ⟨hPf3, htf3, hbf3⟩ := hpsif3
    subst hPf3
    have htf3 : Gf3 a 13 = Gf2 a 13 + 4 := htf3
    have ef3 : Gf3 a 13 = (n0 + 16) := by omega
    have hbf3 : ∀ j : Nat, Gf3 (Gf2 a 12).toNat (2000 + j) = if Gf2 a 13 ≤ (j : Int) ∧ (j : Int) < Gf2 a 13 + 4 then zF_c p4 (24 - 8 * ((j : Int) - Gf2 a 13)) else Gf2 (Gf2 a 12).toNat (2000 + j) := hbf3
    rw [zf3, qf3, show ((tb : Int)).toNat = tb from rfl] at hbf3
    refine zp_load (pc := 41) hx hb (zd_X12_feed (41, .aload_n 0, 1, 0, []) (List.mem_of_getElem? (i := 23) rfl)) rfl (j := 0) rfl ?_
    refine zp_load (pc := 42) hx hb (zd_X12_feed (42, .iload 5, 2, 0, []) (List.mem_of_getElem? (i := 24) rfl)) rfl (j := 5) rfl ?_
    have qf4 : Gf3 a 13 = (n0 + 16) := ef3
    have zf4 : Gf3 a 12 = (tb : Int) := ((zp_nf hfrf3 hp rfl).trans ((zp_nf hfrf2 hp rfl).trans ((zp_nf hfrf1 hp rfl).trans ((zp_nf hfrf0 hp rfl).trans ((zp_set_ne (Or.inr (by decide))).trans (htb))))))
    refine zp_call (pc := 44) (how := 0) (idx := 234) (mi := 206) (S := []) hx hb hE hw heff hrm (zX_mfo hW) rfl (j := 11) rfl rfl (by decide +kernel) (zd_X12_feed (44, .invokevirtual 234, 3, 0, []) (List.mem_of_getElem? (i := 25) rfl)) [(a : Int), p5] rfl ⟨zp_o2 hp, k5, trivial⟩ (Nat.le_of_ble_eq_true rfl) (show Gf3 a 13 ≤ 396 by omega) (fun al hal rnf4 Pf4 Gf4 hextf4 hfrf4 hokf4 hcsf4 hpsif4 => ?_)
    obtain rfl := List.mem_singleton.mp hal
    have yaf4 := hextf4 _ _ hp
    have ytbf4 := hextf4 _ _ qtb
    obtain ⟨hPf4, htf4, hbf4⟩ := hpsif4
    subst hPf4
    have htf4 : Gf4 a 13 = Gf3 a 13 + 4 := htf4
    have ef4 : Gf4 a 13 = (n0 + 20) := by omega
    have hbf4 : ∀ j : Nat, Gf4 (Gf3 a 12).toNat (2000 + j) = if Gf3 a 13 ≤ (j : Int) ∧ (j : Int) < Gf3 a 13 + 4 then zF_c p5 (24 - 8 * ((j : Int) - Gf3 a 13)) else Gf3 (Gf3 a 12).toNat (2000 + j) := hbf4
    rw [zf4, qf4, show ((tb : Int)).toNat = tb from rfl] at hbf4
    refine zp_load (pc := 47) hx hb (zd_X12_feed (47, .aload_n 0, 1, 0, []) (List.mem_of_getElem? (i := 26) rfl)) rfl (j := 0) rfl ?_
    refine zp_getf (n := (n0 + 20)) (pc := 48) hx hb hE hw (zd_X12_feed (48, .getfield 228, 3, 0, []) (List.mem_of_getElem? (i := 27) rfl)) (j := 31) rfl rfl rfl hp ef4 ?_
    have ez0 : Gf4 a 13 = (n0 + 20) := ef4
    refine zp_iret (pc := 51) (n := (n0 + 20)) hx hb hE hQ hU5 rfl (by decide) (zd_X12_feed (51, .ireturn, 1, 0, []) (List.mem_of_getElem? (i := 28) rfl)) (j := 0) rfl (zp_o0 (by omega) (by omega) (by omega) (by omega)) ?_
    rw [hps]
    show (zp_n u.2.1 a 13 ≤ 380 → (n0 + 20) = zp_n u.2.1 a 13 + 20 ∧ Gf4 a 13 = zp_n u.2.1 a 13 + 20 ∧ ∀ j : Nat, Gf4 (zp_n u.2.1 a 12).toNat (2000 + j) = zF_5 (fun j => zp_n u.2.1 (zp_n u.2.1 a 12).toNat (2000 + j)) (zp_n u.2.1 a 13) p1 p2 p3 p4 p5 j) ∧ (¬ (zp_n u.2.1 a 13 ≤ 380) → (n0 + 20) = -1 ∧ Gf4 a 13 = zp_n u.2.1 a 13 ∧ ∀ j : Nat, Gf4 (zp_n u.2.1 a 12).toNat (2000 + j) = (fun j => zp_n u.2.1 (zp_n u.2.1 a 12).toNat (2000 + j)) j)
    rw [htv, hn0]
    refine ⟨fun h => ⟨by omega, by omega, fun j => ?_⟩, fun h => by exfalso; omega⟩
    have hj4 : Gf4 tb (2000 + j) = zF_4 (fun j => Gf3 tb (2000 + j)) (n0 + 16) p5 j := hbf4 j
    have hf3 : (fun j => Gf3 tb (2000 + j)) = zF_4 (fun j => Gf2 tb (2000 + j)) (n0 + 12) p4 := funext hbf3
    have hf2 : (fun j => Gf2 tb (2000 + j)) = zF_4 (fun j => Gf1 tb (2000 + j)) (n0 + 8) p3 := funext hbf2
    have hf1 : (fun j => Gf1 tb (2000 + j)) = zF_4 (fun j => Gf0 tb (2000 + j)) (n0 + 4) p2 := funext hbf1
    have hf0 : (fun j => Gf0 tb (2000 + j)) = zF_4 (fun j => (zp_set (zp_n u.2.1) a 0 0) tb (2000 + j)) n0 p1 := funext hbf0
    have hfb : (fun j => zp_set (zp_n u.2.1) a 0 0 tb (2000 + j)) = fun j => zp_n u.2.1 tb (2000 + j) := funext fun j => zp_set_ne (Or.inl (zp_pne qtb hp (by decide)))
    rw [hj4, hf3, hf2, hf1, hf0, hfb]
    rfl
  · refine zp_const (pc := 18) hx hb (zd_X12_feed (18, .iconst (-1), 1, 0, []) (List.mem_of_getElem? (i := 9) rfl)) rfl rfl ?_
    have ez0 : (zp_set (zp_n u.2.1) a 0 0) a 13 = n0 := ((zp_set_ne (Or.inr (by decide))).trans (hn0))
    refine zp_iret (pc := 19) (n := (-1)) hx hb hE hQ hU5 rfl (by decide) (zd_X12_feed (19, .ireturn, 1, 0, []) (List.mem_of_getElem? (i := 10) rfl)) (j := 0) rfl (zp_o0 (by omega) (by omega) (by omega) (by omega)) ?_
    rw [hps]
    show (zp_n u.2.1 a 13 ≤ 380 → (-1) = zp_n u.2.1 a 13 + 20 ∧ (zp_set (zp_n u.2.1) a 0 0) a 13 = zp_n u.2.1 a 13 + 20 ∧ ∀ j : Nat, (zp_set (zp_n u.2.1) a 0 0) (zp_n u.2.1 a 12).toNat (2000 + j) = zF_5 (fun j => zp_n u.2.1 (zp_n u.2.1 a 12).toNat (2000 + j)) (zp_n u.2.1 a 13) p1 p2 p3 p4 p5 j) ∧ (¬ (zp_n u.2.1 a 13 ≤ 380) → (-1) = -1 ∧ (zp_set (zp_n u.2.1) a 0 0) a 13 = zp_n u.2.1 a 13 ∧ ∀ j : Nat, (zp_set (zp_n u.2.1) a 0 0) (zp_n u.2.1 a 12).toNat (2000 + j) = (fun j => zp_n u.2.1 (zp_n u.2.1 a 12).toNat (2000 + j)) j)
    rw [htv, hn0]
    exact ⟨fun h => by exfalso; omega, fun h => ⟨rfl, by omega, fun j => zp_set_ne (Or.inl (zp_pne qtb hp (by decide)))⟩⟩
