/-! part g9: the reference: what the law in force tells of wears, snaps, runs, speeds -/
theorem zg_sq31 {t : Int} (h : 0 ≤ t ∧ t ≤ 31) : 0 ≤ t * t ∧ t * t ≤ 961 := ⟨Int.mul_nonneg h.1 h.1, Int.le_trans (Int.mul_le_mul h.2 h.2 h.1 (by decide)) (by decide)⟩
theorem zg_stb {R St : Nat → Int} (hR : ∀ j, j < 5580 → -2147483648 ≤ R j ∧ R j ≤ 2147483647) (hS : ∀ j, j < 13 → -2147483648 ≤ St j ∧ St j ≤ 2147483648) : ∀ j, j < 13 → -2147483648 ≤ zg_st St R j ∧ zg_st St R j ≤ 2147483648 := fun j hj => by
  unfold zg_st
  split
  · have := hR 7 (by omega); omega
  · split
    · have := hR 5 (by omega); omega
    · split
      · have := hR 8 (by omega); omega
      · exact hS j hj
noncomputable def zg_ew (R St : Nat → Int) (t pw h p : Int) : Int → Int → Int := zg_en (zg_st (zg_sh St t pw h p (zg_po R 0 p) (zg_po R 2 p)) R)
noncomputable def zK_weo : zk_K := (zt_mn 238, prog_14_method_71_code, 2, (Option.some Jvm.ClassFile.FieldType.int), 1, 12, [(2, 13, 0, 0), (0, 0, (-2147483648), 2147483647)], [(some (0, 0, (-2147483648), 2147483647), [])], [(13, 34, 0), (75, 1001, 0), (13, 38, 0), (13, 39, 0), (13, 40, 0), (77, 1001, 0)], (4, 200, 0, 0))
noncomputable def zφ_weo (b3 b35 b37 : Nat) (R St : Nat → Int) (M : List yK) : (Nat → Option Nat) → (Nat → Nat → Int) → List Int → Prop := fun P G ps => zg_rl (zp_0 ps) b3 b35 b37 R St M P G ∧ 0 ≤ (ps.getD 1 0) ∧ (ps.getD 1 0) ≤ 31
noncomputable def zψ_weo (b3 b35 b37 : Nat) (R St : Nat → Int) (M : List yK) : (Nat → Option Nat) → (Nat → Nat → Int) → List Int → (Nat → Option Nat) → (Nat → Nat → Int) → Int → Prop := fun P G ps P' G' rn => P' = P ∧ rn = zy_we (zg_ew R St (ps.getD 1 0) (-1) (-1) (-1)) M (ps.getD 1 0) ∧ ∀ j, j < 13 → -2147483648 ≤ G' b35 (2000 + j) ∧ G' b35 (2000 + j) ≤ 2147483648
theorem zX_weo {l : Launch} {w : zk_W} (hW : zh_W w) (b3 b35 b37 : Nat) (R St : Nat → Int) (M : List yK) : zk_metX l w zt_dv zt_TB zK_weo (zp_A (zφ_weo b3 b35 b37 R St M)) (zp_B (zψ_weo b3 b35 b37 R St M)) ∧ zk_cok w zt_TB zK_weo := by
  refine zp_methX (cn := "WoundTownModel") zp_lkall hW (pl := 1801) rfl (by decide +kernel) (fun p e Rm s m args below meth c Q u hx hb hE hQ hU5 heff hnL hok hφ => ?_)
  have hw := hW.1
  obtain ⟨p0, p1, hps, k0, k1⟩ := zp_ps2 hok
  obtain ⟨a, rfl, hp⟩ := zp_this k0
  have hrm : zk_Kr (zk_ev (zt_types, zp_lk, zt_dv, [], [], zp_lc, zK_weo)) = zk_Kr zK_weo := rfl
  rw [hps] at hφ ⊢
  have hi1 := zp_int k1
  have hφ : zg_rl a b3 b35 b37 R St M u.1 (zp_n u.2.1) ∧ 0 ≤ p1 ∧ p1 ≤ 31 := hφ
  obtain ⟨⟨⟨⟨g20, e3, e35, e37, eR, eS⟩, q3, q35, q37, hR, hSt⟩, hlaw⟩, hx1⟩ := hφ
  have hsq := zg_sq31 hx1
  have n3 : b3 ≠ b35 := zp_pne q3 q35 (by decide)
  show zp_J p l e Rm s m args below meth c Q w u [] 0 [(0, 2, (a : Int)), (1, 0, p1)] [] u.1 (zp_n u.2.1)
  refine zp_load (pc := 0) hx hb (zd_X12_wearsOf (0, .aload_n 0, 1, 0, []) (List.mem_of_getElem? (i := 0) rfl)) rfl (j := 0) rfl ?_
  refine zp_load (pc := 1) hx hb (zd_X12_wearsOf (1, .iload_n 1, 1, 0, []) (List.mem_of_getElem? (i := 1) rfl)) rfl (j := 1) rfl ?_
  refine zp_const (pc := 2) hx hb (zd_X12_wearsOf (2, .iconst (-1), 1, 0, []) (List.mem_of_getElem? (i := 2) rfl)) rfl rfl ?_
  refine zp_const (pc := 3) hx hb (zd_X12_wearsOf (3, .iconst (-1), 1, 0, []) (List.mem_of_getElem? (i := 3) rfl)) rfl rfl ?_
  refine zp_const (pc := 4) hx hb (zd_X12_wearsOf (4, .iconst (-1), 1, 0, []) (List.mem_of_getElem? (i := 4) rfl)) rfl rfl ?_
  refine zp_call (pc := 5) (how := 0) (idx := 417) (mi := 239) (S := []) hx hb hE hw heff hrm (zX_shr hW b3 b35 R St) rfl (j := 39) rfl rfl (by decide +kernel) (zd_X12_wearsOf (5, .invokevirtual 417, 3, 0, []) (List.mem_of_getElem? (i := 5) rfl)) [(a : Int), p1, (-1), (-1), (-1)] rfl ⟨zp_o2 hp, zp_o0 (by omega) (by omega) (by omega) (by omega), zp_o0 (by omega) (by omega) (by omega) (by omega), zp_o0 (by omega) (by omega) (by omega) (by omega), zp_o0 (by omega) (by omega) (by omega) (by omega), trivial⟩ (Nat.le_of_ble_eq_true rfl) ⟨⟨e3, e35, eR, eS⟩, q3, q35, hR⟩ (fun al hal rnh Ph Gh hexth hfrh hokh hcsh hpsih => ?_)
  obtain rfl := List.mem_singleton.mp hal
  have yah := hexth _ _ hp
  have yb3h := hexth _ _ q3
  have yb35h := hexth _ _ q35
  have yb37h := hexth _ _ q37
  obtain ⟨hPh, hWh⟩ := hpsih
  have hWh : ∀ j, Gh b35 (2000 + j) = (zg_sh St p1 (-1) (-1) (-1) (zg_po R 0 (-1)) (zg_po R 2 (-1))) j := hWh
  have h20 : Gh a 20 = 0 := (zp_nf hfrh hp rfl).trans g20
  have h3 : Gh a 3 = (b3 : Int) := (zp_nf hfrh hp rfl).trans e3
  have h35 : Gh a 35 = (b35 : Int) := (zp_nf hfrh hp rfl).trans e35
  have h37 : Gh a 37 = (b37 : Int) := (zp_nf hfrh hp rfl).trans e37
  have hRh : ∀ j, Gh b3 (2000 + j) = R j := fun j => (zp_nc hfrh q3 rfl _).trans (eR j)
  subst hPh
  have hSb := zg_shb (t := p1) (pw := (-1)) (h := (-1)) (p := (-1)) (o := zg_po R 0 (-1)) (l := zg_po R 2 (-1)) hSt (by omega) (by omega) (by omega) (by omega) (zg_pob hR (by decide) (by omega)) (zg_pob hR (by decide) (by omega))
  refine zp_load (pc := 8) hx hb (zd_X12_wearsOf (8, .aload_n 0, 1, 0, []) (List.mem_of_getElem? (i := 6) rfl)) rfl (j := 0) rfl ?_
  refine zp_const (pc := 9) hx hb (zd_X12_wearsOf (9, .iconst 2, 1, 0, []) (List.mem_of_getElem? (i := 7) rfl)) rfl rfl ?_
  refine zp_load (pc := 10) hx hb (zd_X12_wearsOf (10, .iload_n 1, 1, 0, []) (List.mem_of_getElem? (i := 8) rfl)) rfl (j := 1) rfl ?_
  refine zp_i2l (pc := 11) hx hb (zd_X12_wearsOf (11, .i2l, 1, 0, []) (List.mem_of_getElem? (i := 9) rfl)) ?_
  refine zp_load (pc := 12) hx hb (zd_X12_wearsOf (12, .iload_n 1, 1, 0, []) (List.mem_of_getElem? (i := 10) rfl)) rfl (j := 1) rfl ?_
  refine zp_i2l (pc := 13) hx hb (zd_X12_wearsOf (13, .i2l, 1, 0, []) (List.mem_of_getElem? (i := 11) rfl)) ?_
  refine zp_lmulx (n := (p1 * p1)) (pc := 14) hx hb (zd_X12_wearsOf (14, .lmul, 1, 0, []) (List.mem_of_getElem? (i := 12) rfl)) rfl (by first | exact zg_mulr (by omega) (by omega) (by omega) (by omega) | exact zp_r1 (by omega) (by omega)) ?_
  rcases hlaw with ⟨r4, hM0⟩ | ⟨i, hi6, r4, hM1, hM12, hMs⟩
  · subst hM0
    refine zp_call (pc := 15) (how := 0) (idx := 423) (mi := 240) (S := []) hx hb hE hw heff hrm (zX_tl0 hW b3) rfl (j := 40) rfl rfl (by decide +kernel) (zd_X12_wearsOf (15, .invokevirtual 423, 3, 0, []) (List.mem_of_getElem? (i := 13) rfl)) [(a : Int), 2, (p1 * p1)] rfl ⟨zp_o2 hp, zp_o0 (by decide) (by decide) (by decide) (by decide), zp_o1 (by first | assumption | exact zp_r1 (by omega) (by omega) | exact zg_mulr (by omega) (by omega) (by omega) (by omega)), trivial⟩ (Nat.le_of_ble_eq_true rfl) ⟨h3, q3, (hRh 4).trans r4⟩ (fun al hal rnt Pt Gt hextt hfrt hokt hcst hpsit => ?_)
    obtain rfl := List.mem_singleton.mp hal
    have yat := hextt _ _ hp
    have yb3t := hextt _ _ q3
    have yb35t := hextt _ _ q35
    have yb37t := hextt _ _ q37
    obtain ⟨hPt, hGt, hrt⟩ := hpsit
    have hrt : rnt = (p1 * p1) := hrt
    have hr9 : zk_rg 1 rnt := (hokt _ rfl).1.2.2
    subst hPt
    subst hGt
    have hy : yw (zg_ew R St p1 (-1) (-1) (-1)) 2 [] = none := rfl
    refine zp_const (pc := 18) hx hb (zd_X12_wearsOf (18, .iconst 0, 1, 0, []) (List.mem_of_getElem? (i := 14) rfl)) rfl rfl ?_
    refine zp_const (pc := 19) hx hb (zd_X12_wearsOf (19, .sipush 999, 3, 0, []) (List.mem_of_getElem? (i := 15) rfl)) rfl rfl ?_
    refine zp_call (pc := 22) (how := 1) (idx := 427) (mi := 245) (S := []) hx hb hE hw heff hrm (zX_wi0 hW) rfl (j := 45) rfl rfl (by decide +kernel) (zd_X12_wearsOf (22, .invokestatic 427, 3, 0, []) (List.mem_of_getElem? (i := 16) rfl)) [rnt, 0, 999] rfl ⟨zp_o1 hr9, zp_o0 (by decide) (by decide) (by decide) (by decide), zp_o0 (by decide) (by decide) (by decide) (by decide), trivial⟩ (Nat.le_of_ble_eq_true rfl) trivial (fun al hal rnw Pw Gw hextw hfrw hokw hcsw hpsiw => ?_)
    obtain rfl := List.mem_singleton.mp hal
    have hrw := zp_int (hokw _ rfl).1
    have yaw := hextw _ _ hp
    have yb3w := hextw _ _ q3
    have yb35w := hextw _ _ q35
    have yb37w := hextw _ _ q37
    obtain ⟨hPw, hGw, hrnw⟩ := hpsiw
    subst hPw
    subst hGw
    have hrnw : rnw = max 0 (min 999 rnt) := hrnw
    refine zp_iret (pc := 25) (n := rnw) hx hb hE hQ hU5 rfl (by decide) (zd_X12_wearsOf (25, .ireturn, 1, 0, []) (List.mem_of_getElem? (i := 17) rfl)) (j := 0) rfl (zp_o0 (by omega) (by omega) (by omega) (by omega)) ?_
    rw [hps]
    refine ⟨rfl, (show rnw = zy_we (zg_ew R St p1 (-1) (-1) (-1)) [] p1 from ?_), ?_⟩
    · rw [zy_we_n hy, hrnw, hrt]
      all_goals omega
    · exact fun j hj => by rw [hWh]; exact hSb j hj
  · refine zp_call (pc := 15) (how := 0) (idx := 423) (mi := 240) (S := []) hx hb hE hw heff hrm (zX_tel hW b3 b35 b37 i R (zg_sh St p1 (-1) (-1) (-1) (zg_po R 0 (-1)) (zg_po R 2 (-1))) M) rfl (j := 40) rfl rfl (by decide +kernel) (zd_X12_wearsOf (15, .invokevirtual 423, 3, 0, []) (List.mem_of_getElem? (i := 13) rfl)) [(a : Int), 2, (p1 * p1)] rfl ⟨zp_o2 hp, zp_o0 (by decide) (by decide) (by decide) (by decide), zp_o1 (by first | assumption | exact zp_r1 (by omega) (by omega) | exact zg_mulr (by omega) (by omega) (by omega) (by omega)), trivial⟩ (Nat.le_of_ble_eq_true rfl) ⟨⟨h20, h3, h35, h37, hRh, hWh⟩, q3, q35, q37, hi6, r4, hR, hSb, hM1, hM12, hMs⟩ (fun al hal rnt Pt Gt hextt hfrt hokt hcst hpsit => ?_)
    obtain rfl := List.mem_singleton.mp hal
    have yat := hextt _ _ hp
    have yb3t := hextt _ _ q3
    have yb35t := hextt _ _ q35
    have yb37t := hextt _ _ q37
    obtain ⟨hPt, ⟨hvt, hnt⟩, hWt⟩ := hpsit
    have hvt : ∀ v, yw (zg_ew R St p1 (-1) (-1) (-1)) 2 M = some v → rnt = v ∧ -2147483648 ≤ v ∧ v ≤ 2147483648 := hvt
    have hnt : yw (zg_ew R St p1 (-1) (-1) (-1)) 2 M = none → rnt = (p1 * p1) := hnt
    have hr9 : zk_rg 1 rnt := (hokt _ rfl).1.2.2
    subst hPt
    cases hy : yw (zg_ew R St p1 (-1) (-1) (-1)) 2 M with
    | none =>
      have hrt := hnt hy
      refine zp_const (pc := 18) hx hb (zd_X12_wearsOf (18, .iconst 0, 1, 0, []) (List.mem_of_getElem? (i := 14) rfl)) rfl rfl ?_
      refine zp_const (pc := 19) hx hb (zd_X12_wearsOf (19, .sipush 999, 3, 0, []) (List.mem_of_getElem? (i := 15) rfl)) rfl rfl ?_
      refine zp_call (pc := 22) (how := 1) (idx := 427) (mi := 245) (S := []) hx hb hE hw heff hrm (zX_wi0 hW) rfl (j := 45) rfl rfl (by decide +kernel) (zd_X12_wearsOf (22, .invokestatic 427, 3, 0, []) (List.mem_of_getElem? (i := 16) rfl)) [rnt, 0, 999] rfl ⟨zp_o1 hr9, zp_o0 (by decide) (by decide) (by decide) (by decide), zp_o0 (by decide) (by decide) (by decide) (by decide), trivial⟩ (Nat.le_of_ble_eq_true rfl) trivial (fun al hal rnw Pw Gw hextw hfrw hokw hcsw hpsiw => ?_)
      obtain rfl := List.mem_singleton.mp hal
      have hrw := zp_int (hokw _ rfl).1
      have yaw := hextw _ _ hp
      have yb3w := hextw _ _ q3
      have yb35w := hextw _ _ q35
      have yb37w := hextw _ _ q37
      obtain ⟨hPw, hGw, hrnw⟩ := hpsiw
      subst hPw
      subst hGw
      have hrnw : rnw = max 0 (min 999 rnt) := hrnw
      refine zp_iret (pc := 25) (n := rnw) hx hb hE hQ hU5 rfl (by decide) (zd_X12_wearsOf (25, .ireturn, 1, 0, []) (List.mem_of_getElem? (i := 17) rfl)) (j := 0) rfl (zp_o0 (by omega) (by omega) (by omega) (by omega)) ?_
      rw [hps]
      refine ⟨rfl, (show rnw = zy_we (zg_ew R St p1 (-1) (-1) (-1)) M p1 from ?_), ?_⟩
      · rw [zy_we_n hy, hrnw, hrt]
        all_goals omega
      · exact fun j hj => by rw [hWt]; exact zg_stb hR hSb j hj
    | some v9 =>
      obtain ⟨hrt, hb9⟩ := hvt v9 hy
      refine zp_const (pc := 18) hx hb (zd_X12_wearsOf (18, .iconst 0, 1, 0, []) (List.mem_of_getElem? (i := 14) rfl)) rfl rfl ?_
      refine zp_const (pc := 19) hx hb (zd_X12_wearsOf (19, .sipush 999, 3, 0, []) (List.mem_of_getElem? (i := 15) rfl)) rfl rfl ?_
      refine zp_call (pc := 22) (how := 1) (idx := 427) (mi := 245) (S := []) hx hb hE hw heff hrm (zX_wi0 hW) rfl (j := 45) rfl rfl (by decide +kernel) (zd_X12_wearsOf (22, .invokestatic 427, 3, 0, []) (List.mem_of_getElem? (i := 16) rfl)) [rnt, 0, 999] rfl ⟨zp_o1 hr9, zp_o0 (by decide) (by decide) (by decide) (by decide), zp_o0 (by decide) (by decide) (by decide) (by decide), trivial⟩ (Nat.le_of_ble_eq_true rfl) trivial (fun al hal rnw Pw Gw hextw hfrw hokw hcsw hpsiw => ?_)
      obtain rfl := List.mem_singleton.mp hal
      have hrw := zp_int (hokw _ rfl).1
      have yaw := hextw _ _ hp
      have yb3w := hextw _ _ q3
      have yb35w := hextw _ _ q35
      have yb37w := hextw _ _ q37
      obtain ⟨hPw, hGw, hrnw⟩ := hpsiw
      subst hPw
      subst hGw
      have hrnw : rnw = max 0 (min 999 rnt) := hrnw
      refine zp_iret (pc := 25) (n := rnw) hx hb hE hQ hU5 rfl (by decide) (zd_X12_wearsOf (25, .ireturn, 1, 0, []) (List.mem_of_getElem? (i := 17) rfl)) (j := 0) rfl (zp_o0 (by omega) (by omega) (by omega) (by omega)) ?_
      rw [hps]
      refine ⟨rfl, (show rnw = zy_we (zg_ew R St p1 (-1) (-1) (-1)) M p1 from ?_), ?_⟩
      · exact (hrnw.trans (by rw [hrt])).trans (zy_we_s hy).symm
      · exact fun j hj => by rw [hWt]; exact zg_stb hR hSb j hj
noncomputable def zK_sno : zk_K := (zt_mn 246, prog_14_method_72_code, 2, (Option.some Jvm.ClassFile.FieldType.int), 1, 12, [(2, 13, 0, 0), (0, 0, (-2147483648), 2147483647)], [(some (0, 0, (-2147483648), 2147483647), [])], [(13, 34, 0), (75, 1001, 0), (13, 38, 0), (13, 39, 0), (13, 40, 0), (77, 1001, 0)], (4, 200, 0, 0))
noncomputable def zφ_sno (b3 b35 b37 : Nat) (R St : Nat → Int) (M : List yK) : (Nat → Option Nat) → (Nat → Nat → Int) → List Int → Prop := fun P G ps => zg_rl (zp_0 ps) b3 b35 b37 R St M P G ∧ 0 ≤ (ps.getD 1 0) ∧ (ps.getD 1 0) ≤ 1000
noncomputable def zψ_sno (b3 b35 b37 : Nat) (R St : Nat → Int) (M : List yK) : (Nat → Option Nat) → (Nat → Nat → Int) → List Int → (Nat → Option Nat) → (Nat → Nat → Int) → Int → Prop := fun P G ps P' G' rn => P' = P ∧ rn = zy_sn (zg_ew R St (ps.getD 1 0) (-1) (-1) (-1)) M (ps.getD 1 0) ∧ ∀ j, j < 13 → -2147483648 ≤ G' b35 (2000 + j) ∧ G' b35 (2000 + j) ≤ 2147483648
theorem zX_sno {l : Launch} {w : zk_W} (hW : zh_W w) (b3 b35 b37 : Nat) (R St : Nat → Int) (M : List yK) : zk_metX l w zt_dv zt_TB zK_sno (zp_A (zφ_sno b3 b35 b37 R St M)) (zp_B (zψ_sno b3 b35 b37 R St M)) ∧ zk_cok w zt_TB zK_sno := by
  refine zp_methX (cn := "WoundTownModel") zp_lkall hW (pl := 1834) rfl (by decide +kernel) (fun p e Rm s m args below meth c Q u hx hb hE hQ hU5 heff hnL hok hφ => ?_)
  have hw := hW.1
  obtain ⟨p0, p1, hps, k0, k1⟩ := zp_ps2 hok
  obtain ⟨a, rfl, hp⟩ := zp_this k0
  have hrm : zk_Kr (zk_ev (zt_types, zp_lk, zt_dv, [], [], zp_lc, zK_sno)) = zk_Kr zK_sno := rfl
  rw [hps] at hφ ⊢
  have hi1 := zp_int k1
  have hφ : zg_rl a b3 b35 b37 R St M u.1 (zp_n u.2.1) ∧ 0 ≤ p1 ∧ p1 ≤ 1000 := hφ
  obtain ⟨⟨⟨⟨g20, e3, e35, e37, eR, eS⟩, q3, q35, q37, hR, hSt⟩, hlaw⟩, hx1⟩ := hφ
  have n3 : b3 ≠ b35 := zp_pne q3 q35 (by decide)
  show zp_J p l e Rm s m args below meth c Q w u [] 0 [(0, 2, (a : Int)), (1, 0, p1)] [] u.1 (zp_n u.2.1)
  refine zp_load (pc := 0) hx hb (zd_X12_snapsOf (0, .aload_n 0, 1, 0, []) (List.mem_of_getElem? (i := 0) rfl)) rfl (j := 0) rfl ?_
  refine zp_load (pc := 1) hx hb (zd_X12_snapsOf (1, .iload_n 1, 1, 0, []) (List.mem_of_getElem? (i := 1) rfl)) rfl (j := 1) rfl ?_
  refine zp_const (pc := 2) hx hb (zd_X12_snapsOf (2, .iconst (-1), 1, 0, []) (List.mem_of_getElem? (i := 2) rfl)) rfl rfl ?_
  refine zp_const (pc := 3) hx hb (zd_X12_snapsOf (3, .iconst (-1), 1, 0, []) (List.mem_of_getElem? (i := 3) rfl)) rfl rfl ?_
  refine zp_const (pc := 4) hx hb (zd_X12_snapsOf (4, .iconst (-1), 1, 0, []) (List.mem_of_getElem? (i := 4) rfl)) rfl rfl ?_
  refine zp_call (pc := 5) (how := 0) (idx := 417) (mi := 239) (S := []) hx hb hE hw heff hrm (zX_shr hW b3 b35 R St) rfl (j := 39) rfl rfl (by decide +kernel) (zd_X12_snapsOf (5, .invokevirtual 417, 3, 0, []) (List.mem_of_getElem? (i := 5) rfl)) [(a : Int), p1, (-1), (-1), (-1)] rfl ⟨zp_o2 hp, zp_o0 (by omega) (by omega) (by omega) (by omega), zp_o0 (by omega) (by omega) (by omega) (by omega), zp_o0 (by omega) (by omega) (by omega) (by omega), zp_o0 (by omega) (by omega) (by omega) (by omega), trivial⟩ (Nat.le_of_ble_eq_true rfl) ⟨⟨e3, e35, eR, eS⟩, q3, q35, hR⟩ (fun al hal rnh Ph Gh hexth hfrh hokh hcsh hpsih => ?_)
  obtain rfl := List.mem_singleton.mp hal
  have yah := hexth _ _ hp
  have yb3h := hexth _ _ q3
  have yb35h := hexth _ _ q35
  have yb37h := hexth _ _ q37
  obtain ⟨hPh, hWh⟩ := hpsih
  have hWh : ∀ j, Gh b35 (2000 + j) = (zg_sh St p1 (-1) (-1) (-1) (zg_po R 0 (-1)) (zg_po R 2 (-1))) j := hWh
  have h20 : Gh a 20 = 0 := (zp_nf hfrh hp rfl).trans g20
  have h3 : Gh a 3 = (b3 : Int) := (zp_nf hfrh hp rfl).trans e3
  have h35 : Gh a 35 = (b35 : Int) := (zp_nf hfrh hp rfl).trans e35
  have h37 : Gh a 37 = (b37 : Int) := (zp_nf hfrh hp rfl).trans e37
  have hRh : ∀ j, Gh b3 (2000 + j) = R j := fun j => (zp_nc hfrh q3 rfl _).trans (eR j)
  subst hPh
  have hSb := zg_shb (t := p1) (pw := (-1)) (h := (-1)) (p := (-1)) (o := zg_po R 0 (-1)) (l := zg_po R 2 (-1)) hSt (by omega) (by omega) (by omega) (by omega) (zg_pob hR (by decide) (by omega)) (zg_pob hR (by decide) (by omega))
  refine zp_load (pc := 8) hx hb (zd_X12_snapsOf (8, .aload_n 0, 1, 0, []) (List.mem_of_getElem? (i := 6) rfl)) rfl (j := 0) rfl ?_
  refine zp_const (pc := 9) hx hb (zd_X12_snapsOf (9, .iconst 3, 1, 0, []) (List.mem_of_getElem? (i := 7) rfl)) rfl rfl ?_
  refine zp_load (pc := 10) hx hb (zd_X12_snapsOf (10, .iload_n 1, 1, 0, []) (List.mem_of_getElem? (i := 8) rfl)) rfl (j := 1) rfl ?_
  refine zp_const (pc := 11) hx hb (zd_X12_snapsOf (11, .bipush 9, 2, 0, []) (List.mem_of_getElem? (i := 9) rfl)) rfl rfl ?_
  refine zp_icmp (pc := 13) (tgt := 28) hx hb (zd_X12_snapsOf (13, .if_icmp .le 15, 3, 0, []) (List.mem_of_getElem? (i := 10) rfl)) rfl (fun (hc21 : p1 ≤ 9) => ?_) (fun (hc21 : ¬ (p1 ≤ 9)) => ?_)
  · refine zp_const (pc := 28) hx hb (zd_X12_snapsOf (28, .lconst 0, 1, 0, []) (List.mem_of_getElem? (i := 18) rfl)) rfl rfl ?_
    rcases hlaw with ⟨r4, hM0⟩ | ⟨i, hi6, r4, hM1, hM12, hMs⟩
    · subst hM0
      refine zp_call (pc := 29) (how := 0) (idx := 423) (mi := 240) (S := []) hx hb hE hw heff hrm (zX_tl0 hW b3) rfl (j := 40) rfl rfl (by decide +kernel) (zd_X12_snapsOf (29, .invokevirtual 423, 3, 0, []) (List.mem_of_getElem? (i := 19) rfl)) [(a : Int), 3, 0] rfl ⟨zp_o2 hp, zp_o0 (by decide) (by decide) (by decide) (by decide), zp_o1 (by first | assumption | exact zp_r1 (by omega) (by omega) | exact zg_mulr (by omega) (by omega) (by omega) (by omega)), trivial⟩ (Nat.le_of_ble_eq_true rfl) ⟨h3, q3, (hRh 4).trans r4⟩ (fun al hal rnt Pt Gt hextt hfrt hokt hcst hpsit => ?_)
      obtain rfl := List.mem_singleton.mp hal
      have yat := hextt _ _ hp
      have yb3t := hextt _ _ q3
      have yb35t := hextt _ _ q35
      have yb37t := hextt _ _ q37
      obtain ⟨hPt, hGt, hrt⟩ := hpsit
      have hrt : rnt = 0 := hrt
      have hr9 : zk_rg 1 rnt := (hokt _ rfl).1.2.2
      subst hPt
      subst hGt
      have hy : yw (zg_ew R St p1 (-1) (-1) (-1)) 3 [] = none := rfl
      refine zp_const (pc := 32) hx hb (zd_X12_snapsOf (32, .iconst 0, 1, 0, []) (List.mem_of_getElem? (i := 20) rfl)) rfl rfl ?_
      refine zp_const (pc := 33) hx hb (zd_X12_snapsOf (33, .bipush 100, 2, 0, []) (List.mem_of_getElem? (i := 21) rfl)) rfl rfl ?_
      refine zp_call (pc := 35) (how := 1) (idx := 427) (mi := 245) (S := []) hx hb hE hw heff hrm (zX_wi0 hW) rfl (j := 45) rfl rfl (by decide +kernel) (zd_X12_snapsOf (35, .invokestatic 427, 3, 0, []) (List.mem_of_getElem? (i := 22) rfl)) [rnt, 0, 100] rfl ⟨zp_o1 hr9, zp_o0 (by decide) (by decide) (by decide) (by decide), zp_o0 (by decide) (by decide) (by decide) (by decide), trivial⟩ (Nat.le_of_ble_eq_true rfl) trivial (fun al hal rnw Pw Gw hextw hfrw hokw hcsw hpsiw => ?_)
      obtain rfl := List.mem_singleton.mp hal
      have hrw := zp_int (hokw _ rfl).1
      have yaw := hextw _ _ hp
      have yb3w := hextw _ _ q3
      have yb35w := hextw _ _ q35
      have yb37w := hextw _ _ q37
      obtain ⟨hPw, hGw, hrnw⟩ := hpsiw
      subst hPw
      subst hGw
      have hrnw : rnw = max 0 (min 100 rnt) := hrnw
      refine zp_iret (pc := 38) (n := rnw) hx hb hE hQ hU5 rfl (by decide) (zd_X12_snapsOf (38, .ireturn, 1, 0, []) (List.mem_of_getElem? (i := 23) rfl)) (j := 0) rfl (zp_o0 (by omega) (by omega) (by omega) (by omega)) ?_
      rw [hps]
      refine ⟨rfl, (show rnw = zy_sn (zg_ew R St p1 (-1) (-1) (-1)) [] p1 from ?_), ?_⟩
      · rw [zy_sn_n hy, hrnw, hrt]
        all_goals omega
      · exact fun j hj => by rw [hWh]; exact hSb j hj
    · refine zp_call (pc := 29) (how := 0) (idx := 423) (mi := 240) (S := []) hx hb hE hw heff hrm (zX_tel hW b3 b35 b37 i R (zg_sh St p1 (-1) (-1) (-1) (zg_po R 0 (-1)) (zg_po R 2 (-1))) M) rfl (j := 40) rfl rfl (by decide +kernel) (zd_X12_snapsOf (29, .invokevirtual 423, 3, 0, []) (List.mem_of_getElem? (i := 19) rfl)) [(a : Int), 3, 0] rfl ⟨zp_o2 hp, zp_o0 (by decide) (by decide) (by decide) (by decide), zp_o1 (by first | assumption | exact zp_r1 (by omega) (by omega) | exact zg_mulr (by omega) (by omega) (by omega) (by omega)), trivial⟩ (Nat.le_of_ble_eq_true rfl) ⟨⟨h20, h3, h35, h37, hRh, hWh⟩, q3, q35, q37, hi6, r4, hR, hSb, hM1, hM12, hMs⟩ (fun al hal rnt Pt Gt hextt hfrt hokt hcst hpsit => ?_)
      obtain rfl := List.mem_singleton.mp hal
      have yat := hextt _ _ hp
      have yb3t := hextt _ _ q3
      have yb35t := hextt _ _ q35
      have yb37t := hextt _ _ q37
      obtain ⟨hPt, ⟨hvt, hnt⟩, hWt⟩ := hpsit
      have hvt : ∀ v, yw (zg_ew R St p1 (-1) (-1) (-1)) 3 M = some v → rnt = v ∧ -2147483648 ≤ v ∧ v ≤ 2147483648 := hvt
      have hnt : yw (zg_ew R St p1 (-1) (-1) (-1)) 3 M = none → rnt = 0 := hnt
      have hr9 : zk_rg 1 rnt := (hokt _ rfl).1.2.2
      subst hPt
      cases hy : yw (zg_ew R St p1 (-1) (-1) (-1)) 3 M with
      | none =>
        have hrt := hnt hy
        refine zp_const (pc := 32) hx hb (zd_X12_snapsOf (32, .iconst 0, 1, 0, []) (List.mem_of_getElem? (i := 20) rfl)) rfl rfl ?_
        refine zp_const (pc := 33) hx hb (zd_X12_snapsOf (33, .bipush 100, 2, 0, []) (List.mem_of_getElem? (i := 21) rfl)) rfl rfl ?_
        refine zp_call (pc := 35) (how := 1) (idx := 427) (mi := 245) (S := []) hx hb hE hw heff hrm (zX_wi0 hW) rfl (j := 45) rfl rfl (by decide +kernel) (zd_X12_snapsOf (35, .invokestatic 427, 3, 0, []) (List.mem_of_getElem? (i := 22) rfl)) [rnt, 0, 100] rfl ⟨zp_o1 hr9, zp_o0 (by decide) (by decide) (by decide) (by decide), zp_o0 (by decide) (by decide) (by decide) (by decide), trivial⟩ (Nat.le_of_ble_eq_true rfl) trivial (fun al hal rnw Pw Gw hextw hfrw hokw hcsw hpsiw => ?_)
        obtain rfl := List.mem_singleton.mp hal
        have hrw := zp_int (hokw _ rfl).1
        have yaw := hextw _ _ hp
        have yb3w := hextw _ _ q3
        have yb35w := hextw _ _ q35
        have yb37w := hextw _ _ q37
        obtain ⟨hPw, hGw, hrnw⟩ := hpsiw
        subst hPw
        subst hGw
        have hrnw : rnw = max 0 (min 100 rnt) := hrnw
        refine zp_iret (pc := 38) (n := rnw) hx hb hE hQ hU5 rfl (by decide) (zd_X12_snapsOf (38, .ireturn, 1, 0, []) (List.mem_of_getElem? (i := 23) rfl)) (j := 0) rfl (zp_o0 (by omega) (by omega) (by omega) (by omega)) ?_
        rw [hps]
        refine ⟨rfl, (show rnw = zy_sn (zg_ew R St p1 (-1) (-1) (-1)) M p1 from ?_), ?_⟩
        · rw [zy_sn_n hy, hrnw, hrt]
          all_goals omega
        · exact fun j hj => by rw [hWt]; exact zg_stb hR hSb j hj
      | some v9 =>
        obtain ⟨hrt, hb9⟩ := hvt v9 hy
        refine zp_const (pc := 32) hx hb (zd_X12_snapsOf (32, .iconst 0, 1, 0, []) (List.mem_of_getElem? (i := 20) rfl)) rfl rfl ?_
        refine zp_const (pc := 33) hx hb (zd_X12_snapsOf (33, .bipush 100, 2, 0, []) (List.mem_of_getElem? (i := 21) rfl)) rfl rfl ?_
        refine zp_call (pc := 35) (how := 1) (idx := 427) (mi := 245) (S := []) hx hb hE hw heff hrm (zX_wi0 hW) rfl (j := 45) rfl rfl (by decide +kernel) (zd_X12_snapsOf (35, .invokestatic 427, 3, 0, []) (List.mem_of_getElem? (i := 22) rfl)) [rnt, 0, 100] rfl ⟨zp_o1 hr9, zp_o0 (by decide) (by decide) (by decide) (by decide), zp_o0 (by decide) (by decide) (by decide) (by decide), trivial⟩ (Nat.le_of_ble_eq_true rfl) trivial (fun al hal rnw Pw Gw hextw hfrw hokw hcsw hpsiw => ?_)
        obtain rfl := List.mem_singleton.mp hal
        have hrw := zp_int (hokw _ rfl).1
        have yaw := hextw _ _ hp
        have yb3w := hextw _ _ q3
        have yb35w := hextw _ _ q35
        have yb37w := hextw _ _ q37
        obtain ⟨hPw, hGw, hrnw⟩ := hpsiw
        subst hPw
        subst hGw
        have hrnw : rnw = max 0 (min 100 rnt) := hrnw
        refine zp_iret (pc := 38) (n := rnw) hx hb hE hQ hU5 rfl (by decide) (zd_X12_snapsOf (38, .ireturn, 1, 0, []) (List.mem_of_getElem? (i := 23) rfl)) (j := 0) rfl (zp_o0 (by omega) (by omega) (by omega) (by omega)) ?_
        rw [hps]
        refine ⟨rfl, (show rnw = zy_sn (zg_ew R St p1 (-1) (-1) (-1)) M p1 from ?_), ?_⟩
        · exact (hrnw.trans (by rw [hrt])).trans (zy_sn_s hy).symm
        · exact fun j hj => by rw [hWt]; exact zg_stb hR hSb j hj
  · refine zp_ldc2 (pc := 16) hx hb hE (zd_X12_snapsOf (16, .ldc2_w 271, 3, 0, []) (List.mem_of_getElem? (i := 11) rfl)) (j := 94) rfl ?_
    refine zp_load (pc := 19) hx hb (zd_X12_snapsOf (19, .iload_n 1, 1, 0, []) (List.mem_of_getElem? (i := 12) rfl)) rfl (j := 1) rfl ?_
    refine zp_const (pc := 20) hx hb (zd_X12_snapsOf (20, .bipush 9, 2, 0, []) (List.mem_of_getElem? (i := 13) rfl)) rfl rfl ?_
    refine zp_sub (n := (p1 - 9)) (pc := 22) hx hb (zd_X12_snapsOf (22, .isub, 1, 0, []) (List.mem_of_getElem? (i := 14) rfl)) (by omega) (zp_r0 (by omega) (by omega)) ?_
    refine zp_i2l (pc := 23) hx hb (zd_X12_snapsOf (23, .i2l, 1, 0, []) (List.mem_of_getElem? (i := 15) rfl)) ?_
    refine zp_lmulx (n := (10 * (p1 - 9))) (pc := 24) hx hb (zd_X12_snapsOf (24, .lmul, 1, 0, []) (List.mem_of_getElem? (i := 16) rfl)) rfl (by first | exact zg_mulr (by omega) (by omega) (by omega) (by omega) | exact zp_r1 (by omega) (by omega)) ?_
    refine zp_goto (tgt := 29) (pc := 25) hx hb (zd_X12_snapsOf (25, .goto 4, 3, 0, []) (List.mem_of_getElem? (i := 17) rfl)) rfl ?_
    rcases hlaw with ⟨r4, hM0⟩ | ⟨i, hi6, r4, hM1, hM12, hMs⟩
    · subst hM0
      refine zp_call (pc := 29) (how := 0) (idx := 423) (mi := 240) (S := []) hx hb hE hw heff hrm (zX_tl0 hW b3) rfl (j := 40) rfl rfl (by decide +kernel) (zd_X12_snapsOf (29, .invokevirtual 423, 3, 0, []) (List.mem_of_getElem? (i := 19) rfl)) [(a : Int), 3, (10 * (p1 - 9))] rfl ⟨zp_o2 hp, zp_o0 (by decide) (by decide) (by decide) (by decide), zp_o1 (by first | assumption | exact zp_r1 (by omega) (by omega) | exact zg_mulr (by omega) (by omega) (by omega) (by omega)), trivial⟩ (Nat.le_of_ble_eq_true rfl) ⟨h3, q3, (hRh 4).trans r4⟩ (fun al hal rnt Pt Gt hextt hfrt hokt hcst hpsit => ?_)
      obtain rfl := List.mem_singleton.mp hal
      have yat := hextt _ _ hp
      have yb3t := hextt _ _ q3
      have yb35t := hextt _ _ q35
      have yb37t := hextt _ _ q37
      obtain ⟨hPt, hGt, hrt⟩ := hpsit
      have hrt : rnt = (10 * (p1 - 9)) := hrt
      have hr9 : zk_rg 1 rnt := (hokt _ rfl).1.2.2
      subst hPt
      subst hGt
      have hy : yw (zg_ew R St p1 (-1) (-1) (-1)) 3 [] = none := rfl
      refine zp_const (pc := 32) hx hb (zd_X12_snapsOf (32, .iconst 0, 1, 0, []) (List.mem_of_getElem? (i := 20) rfl)) rfl rfl ?_
      refine zp_const (pc := 33) hx hb (zd_X12_snapsOf (33, .bipush 100, 2, 0, []) (List.mem_of_getElem? (i := 21) rfl)) rfl rfl ?_
      refine zp_call (pc := 35) (how := 1) (idx := 427) (mi := 245) (S := []) hx hb hE hw heff hrm (zX_wi0 hW) rfl (j := 45) rfl rfl (by decide +kernel) (zd_X12_snapsOf (35, .invokestatic 427, 3, 0, []) (List.mem_of_getElem? (i := 22) rfl)) [rnt, 0, 100] rfl ⟨zp_o1 hr9, zp_o0 (by decide) (by decide) (by decide) (by decide), zp_o0 (by decide) (by decide) (by decide) (by decide), trivial⟩ (Nat.le_of_ble_eq_true rfl) trivial (fun al hal rnw Pw Gw hextw hfrw hokw hcsw hpsiw => ?_)
      obtain rfl := List.mem_singleton.mp hal
      have hrw := zp_int (hokw _ rfl).1
      have yaw := hextw _ _ hp
      have yb3w := hextw _ _ q3
      have yb35w := hextw _ _ q35
      have yb37w := hextw _ _ q37
      obtain ⟨hPw, hGw, hrnw⟩ := hpsiw
      subst hPw
      subst hGw
      have hrnw : rnw = max 0 (min 100 rnt) := hrnw
      refine zp_iret (pc := 38) (n := rnw) hx hb hE hQ hU5 rfl (by decide) (zd_X12_snapsOf (38, .ireturn, 1, 0, []) (List.mem_of_getElem? (i := 23) rfl)) (j := 0) rfl (zp_o0 (by omega) (by omega) (by omega) (by omega)) ?_
      rw [hps]
      refine ⟨rfl, (show rnw = zy_sn (zg_ew R St p1 (-1) (-1) (-1)) [] p1 from ?_), ?_⟩
      · rw [zy_sn_n hy, hrnw, hrt]
        all_goals omega
      · exact fun j hj => by rw [hWh]; exact hSb j hj
    · refine zp_call (pc := 29) (how := 0) (idx := 423) (mi := 240) (S := []) hx hb hE hw heff hrm (zX_tel hW b3 b35 b37 i R (zg_sh St p1 (-1) (-1) (-1) (zg_po R 0 (-1)) (zg_po R 2 (-1))) M) rfl (j := 40) rfl rfl (by decide +kernel) (zd_X12_snapsOf (29, .invokevirtual 423, 3, 0, []) (List.mem_of_getElem? (i := 19) rfl)) [(a : Int), 3, (10 * (p1 - 9))] rfl ⟨zp_o2 hp, zp_o0 (by decide) (by decide) (by decide) (by decide), zp_o1 (by first | assumption | exact zp_r1 (by omega) (by omega) | exact zg_mulr (by omega) (by omega) (by omega) (by omega)), trivial⟩ (Nat.le_of_ble_eq_true rfl) ⟨⟨h20, h3, h35, h37, hRh, hWh⟩, q3, q35, q37, hi6, r4, hR, hSb, hM1, hM12, hMs⟩ (fun al hal rnt Pt Gt hextt hfrt hokt hcst hpsit => ?_)
      obtain rfl := List.mem_singleton.mp hal
      have yat := hextt _ _ hp
      have yb3t := hextt _ _ q3
      have yb35t := hextt _ _ q35
      have yb37t := hextt _ _ q37
      obtain ⟨hPt, ⟨hvt, hnt⟩, hWt⟩ := hpsit
      have hvt : ∀ v, yw (zg_ew R St p1 (-1) (-1) (-1)) 3 M = some v → rnt = v ∧ -2147483648 ≤ v ∧ v ≤ 2147483648 := hvt
      have hnt : yw (zg_ew R St p1 (-1) (-1) (-1)) 3 M = none → rnt = (10 * (p1 - 9)) := hnt
      have hr9 : zk_rg 1 rnt := (hokt _ rfl).1.2.2
      subst hPt
      cases hy : yw (zg_ew R St p1 (-1) (-1) (-1)) 3 M with
      | none =>
        have hrt := hnt hy
        refine zp_const (pc := 32) hx hb (zd_X12_snapsOf (32, .iconst 0, 1, 0, []) (List.mem_of_getElem? (i := 20) rfl)) rfl rfl ?_
        refine zp_const (pc := 33) hx hb (zd_X12_snapsOf (33, .bipush 100, 2, 0, []) (List.mem_of_getElem? (i := 21) rfl)) rfl rfl ?_
        refine zp_call (pc := 35) (how := 1) (idx := 427) (mi := 245) (S := []) hx hb hE hw heff hrm (zX_wi0 hW) rfl (j := 45) rfl rfl (by decide +kernel) (zd_X12_snapsOf (35, .invokestatic 427, 3, 0, []) (List.mem_of_getElem? (i := 22) rfl)) [rnt, 0, 100] rfl ⟨zp_o1 hr9, zp_o0 (by decide) (by decide) (by decide) (by decide), zp_o0 (by decide) (by decide) (by decide) (by decide), trivial⟩ (Nat.le_of_ble_eq_true rfl) trivial (fun al hal rnw Pw Gw hextw hfrw hokw hcsw hpsiw => ?_)
        obtain rfl := List.mem_singleton.mp hal
        have hrw := zp_int (hokw _ rfl).1
        have yaw := hextw _ _ hp
        have yb3w := hextw _ _ q3
        have yb35w := hextw _ _ q35
        have yb37w := hextw _ _ q37
        obtain ⟨hPw, hGw, hrnw⟩ := hpsiw
        subst hPw
        subst hGw
        have hrnw : rnw = max 0 (min 100 rnt) := hrnw
        refine zp_iret (pc := 38) (n := rnw) hx hb hE hQ hU5 rfl (by decide) (zd_X12_snapsOf (38, .ireturn, 1, 0, []) (List.mem_of_getElem? (i := 23) rfl)) (j := 0) rfl (zp_o0 (by omega) (by omega) (by omega) (by omega)) ?_
        rw [hps]
        refine ⟨rfl, (show rnw = zy_sn (zg_ew R St p1 (-1) (-1) (-1)) M p1 from ?_), ?_⟩
        · rw [zy_sn_n hy, hrnw, hrt]
          all_goals omega
        · exact fun j hj => by rw [hWt]; exact zg_stb hR hSb j hj
      | some v9 =>
        obtain ⟨hrt, hb9⟩ := hvt v9 hy
        refine zp_const (pc := 32) hx hb (zd_X12_snapsOf (32, .iconst 0, 1, 0, []) (List.mem_of_getElem? (i := 20) rfl)) rfl rfl ?_
        refine zp_const (pc := 33) hx hb (zd_X12_snapsOf (33, .bipush 100, 2, 0, []) (List.mem_of_getElem? (i := 21) rfl)) rfl rfl ?_
        refine zp_call (pc := 35) (how := 1) (idx := 427) (mi := 245) (S := []) hx hb hE hw heff hrm (zX_wi0 hW) rfl (j := 45) rfl rfl (by decide +kernel) (zd_X12_snapsOf (35, .invokestatic 427, 3, 0, []) (List.mem_of_getElem? (i := 22) rfl)) [rnt, 0, 100] rfl ⟨zp_o1 hr9, zp_o0 (by decide) (by decide) (by decide) (by decide), zp_o0 (by decide) (by decide) (by decide) (by decide), trivial⟩ (Nat.le_of_ble_eq_true rfl) trivial (fun al hal rnw Pw Gw hextw hfrw hokw hcsw hpsiw => ?_)
        obtain rfl := List.mem_singleton.mp hal
        have hrw := zp_int (hokw _ rfl).1
        have yaw := hextw _ _ hp
        have yb3w := hextw _ _ q3
        have yb35w := hextw _ _ q35
        have yb37w := hextw _ _ q37
        obtain ⟨hPw, hGw, hrnw⟩ := hpsiw
        subst hPw
        subst hGw
        have hrnw : rnw = max 0 (min 100 rnt) := hrnw
        refine zp_iret (pc := 38) (n := rnw) hx hb hE hQ hU5 rfl (by decide) (zd_X12_snapsOf (38, .ireturn, 1, 0, []) (List.mem_of_getElem? (i := 23) rfl)) (j := 0) rfl (zp_o0 (by omega) (by omega) (by omega) (by omega)) ?_
        rw [hps]
        refine ⟨rfl, (show rnw = zy_sn (zg_ew R St p1 (-1) (-1) (-1)) M p1 from ?_), ?_⟩
        · exact (hrnw.trans (by rw [hrt])).trans (zy_sn_s hy).symm
        · exact fun j hj => by rw [hWt]; exact zg_stb hR hSb j hj
noncomputable def zK_ruo : zk_K := (zt_mn 252, prog_14_method_69_code, 4, (Option.some Jvm.ClassFile.FieldType.int), 1, 12, [(2, 13, 0, 0), (0, 0, (-2147483648), 2147483647), (0, 0, (-2147483648), 2147483647), (0, 0, (-2147483648), 2147483647)], [(some (0, 0, (-2147483648), 2147483647), [])], [(13, 34, 0), (75, 1001, 0), (13, 38, 0), (13, 39, 0), (13, 40, 0), (77, 1001, 0)], (4, 200, 0, 0))
noncomputable def zφ_ruo (b3 b35 b37 : Nat) (R St : Nat → Int) (M : List yK) : (Nat → Option Nat) → (Nat → Nat → Int) → List Int → Prop := fun P G ps => zg_rl (zp_0 ps) b3 b35 b37 R St M P G
noncomputable def zψ_ruo (b3 b35 b37 : Nat) (R St : Nat → Int) (M : List yK) : (Nat → Option Nat) → (Nat → Nat → Int) → List Int → (Nat → Option Nat) → (Nat → Nat → Int) → Int → Prop := fun P G ps P' G' rn => P' = P ∧ rn = zy_ru (zg_ew R St (ps.getD 1 0) (ps.getD 2 0) (ps.getD 3 0) (-1)) M ∧ ∀ j, j < 13 → -2147483648 ≤ G' b35 (2000 + j) ∧ G' b35 (2000 + j) ≤ 2147483648
theorem zX_ruo {l : Launch} {w : zk_W} (hW : zh_W w) (b3 b35 b37 : Nat) (R St : Nat → Int) (M : List yK) : zk_metX l w zt_dv zt_TB zK_ruo (zp_A (zφ_ruo b3 b35 b37 R St M)) (zp_B (zψ_ruo b3 b35 b37 R St M)) ∧ zk_cok w zt_TB zK_ruo := by
  refine zp_methX (cn := "WoundTownModel") zp_lkall hW (pl := 1858) rfl (by decide +kernel) (fun p e Rm s m args below meth c Q u hx hb hE hQ hU5 heff hnL hok hφ => ?_)
  have hw := hW.1
  obtain ⟨p0, p1, p2, p3, hps, k0, k1, k2, k3⟩ := zp_ps4 hok
  obtain ⟨a, rfl, hp⟩ := zp_this k0
  have hrm : zk_Kr (zk_ev (zt_types, zp_lk, zt_dv, [], [], zp_lc, zK_ruo)) = zk_Kr zK_ruo := rfl
  rw [hps] at hφ ⊢
  have hi1 := zp_int k1
  have hi2 := zp_int k2
  have hi3 := zp_int k3
  have hφ : zg_rl a b3 b35 b37 R St M u.1 (zp_n u.2.1) := hφ
  obtain ⟨⟨⟨g20, e3, e35, e37, eR, eS⟩, q3, q35, q37, hR, hSt⟩, hlaw⟩ := hφ
  have n3 : b3 ≠ b35 := zp_pne q3 q35 (by decide)
  show zp_J p l e Rm s m args below meth c Q w u [] 0 [(0, 2, (a : Int)), (1, 0, p1), (2, 0, p2), (3, 0, p3)] [] u.1 (zp_n u.2.1)
  refine zp_load (pc := 0) hx hb (zd_X12_runsOf (0, .aload_n 0, 1, 0, []) (List.mem_of_getElem? (i := 0) rfl)) rfl (j := 0) rfl ?_
  refine zp_load (pc := 1) hx hb (zd_X12_runsOf (1, .iload_n 1, 1, 0, []) (List.mem_of_getElem? (i := 1) rfl)) rfl (j := 1) rfl ?_
  refine zp_load (pc := 2) hx hb (zd_X12_runsOf (2, .iload_n 2, 1, 0, []) (List.mem_of_getElem? (i := 2) rfl)) rfl (j := 2) rfl ?_
  refine zp_load (pc := 3) hx hb (zd_X12_runsOf (3, .iload_n 3, 1, 0, []) (List.mem_of_getElem? (i := 3) rfl)) rfl (j := 3) rfl ?_
  refine zp_const (pc := 4) hx hb (zd_X12_runsOf (4, .iconst (-1), 1, 0, []) (List.mem_of_getElem? (i := 4) rfl)) rfl rfl ?_
  refine zp_call (pc := 5) (how := 0) (idx := 417) (mi := 239) (S := []) hx hb hE hw heff hrm (zX_shr hW b3 b35 R St) rfl (j := 39) rfl rfl (by decide +kernel) (zd_X12_runsOf (5, .invokevirtual 417, 3, 0, []) (List.mem_of_getElem? (i := 5) rfl)) [(a : Int), p1, p2, p3, (-1)] rfl ⟨zp_o2 hp, zp_o0 (by omega) (by omega) (by omega) (by omega), zp_o0 (by omega) (by omega) (by omega) (by omega), zp_o0 (by omega) (by omega) (by omega) (by omega), zp_o0 (by omega) (by omega) (by omega) (by omega), trivial⟩ (Nat.le_of_ble_eq_true rfl) ⟨⟨e3, e35, eR, eS⟩, q3, q35, hR⟩ (fun al hal rnh Ph Gh hexth hfrh hokh hcsh hpsih => ?_)
  obtain rfl := List.mem_singleton.mp hal
  have yah := hexth _ _ hp
  have yb3h := hexth _ _ q3
  have yb35h := hexth _ _ q35
  have yb37h := hexth _ _ q37
  obtain ⟨hPh, hWh⟩ := hpsih
  have hWh : ∀ j, Gh b35 (2000 + j) = (zg_sh St p1 p2 p3 (-1) (zg_po R 0 (-1)) (zg_po R 2 (-1))) j := hWh
  have h20 : Gh a 20 = 0 := (zp_nf hfrh hp rfl).trans g20
  have h3 : Gh a 3 = (b3 : Int) := (zp_nf hfrh hp rfl).trans e3
  have h35 : Gh a 35 = (b35 : Int) := (zp_nf hfrh hp rfl).trans e35
  have h37 : Gh a 37 = (b37 : Int) := (zp_nf hfrh hp rfl).trans e37
  have hRh : ∀ j, Gh b3 (2000 + j) = R j := fun j => (zp_nc hfrh q3 rfl _).trans (eR j)
  subst hPh
  have hSb := zg_shb (t := p1) (pw := p2) (h := p3) (p := (-1)) (o := zg_po R 0 (-1)) (l := zg_po R 2 (-1)) hSt (by omega) (by omega) (by omega) (by omega) (zg_pob hR (by decide) (by omega)) (zg_pob hR (by decide) (by omega))
  refine zp_load (pc := 8) hx hb (zd_X12_runsOf (8, .aload_n 0, 1, 0, []) (List.mem_of_getElem? (i := 6) rfl)) rfl (j := 0) rfl ?_
  refine zp_const (pc := 9) hx hb (zd_X12_runsOf (9, .iconst 0, 1, 0, []) (List.mem_of_getElem? (i := 7) rfl)) rfl rfl ?_
  refine zp_ldc2 (pc := 10) hx hb hE (zd_X12_runsOf (10, .ldc2_w 421, 3, 0, []) (List.mem_of_getElem? (i := 8) rfl)) (j := 108) rfl ?_
  rcases hlaw with ⟨r4, hM0⟩ | ⟨i, hi6, r4, hM1, hM12, hMs⟩
  · subst hM0
    refine zp_call (pc := 13) (how := 0) (idx := 423) (mi := 240) (S := []) hx hb hE hw heff hrm (zX_tl0 hW b3) rfl (j := 40) rfl rfl (by decide +kernel) (zd_X12_runsOf (13, .invokevirtual 423, 3, 0, []) (List.mem_of_getElem? (i := 9) rfl)) [(a : Int), 0, 60] rfl ⟨zp_o2 hp, zp_o0 (by decide) (by decide) (by decide) (by decide), zp_o1 (by first | assumption | exact zp_r1 (by omega) (by omega) | exact zg_mulr (by omega) (by omega) (by omega) (by omega)), trivial⟩ (Nat.le_of_ble_eq_true rfl) ⟨h3, q3, (hRh 4).trans r4⟩ (fun al hal rnt Pt Gt hextt hfrt hokt hcst hpsit => ?_)
    obtain rfl := List.mem_singleton.mp hal
    have yat := hextt _ _ hp
    have yb3t := hextt _ _ q3
    have yb35t := hextt _ _ q35
    have yb37t := hextt _ _ q37
    obtain ⟨hPt, hGt, hrt⟩ := hpsit
    have hrt : rnt = 60 := hrt
    have hr9 : zk_rg 1 rnt := (hokt _ rfl).1.2.2
    subst hPt
    subst hGt
    have hy : yw (zg_ew R St p1 p2 p3 (-1)) 0 [] = none := rfl
    refine zp_const (pc := 16) hx hb (zd_X12_runsOf (16, .iconst 0, 1, 0, []) (List.mem_of_getElem? (i := 10) rfl)) rfl rfl ?_
    refine zp_const (pc := 17) hx hb (zd_X12_runsOf (17, .sipush 999, 3, 0, []) (List.mem_of_getElem? (i := 11) rfl)) rfl rfl ?_
    refine zp_call (pc := 20) (how := 1) (idx := 427) (mi := 245) (S := []) hx hb hE hw heff hrm (zX_wi0 hW) rfl (j := 45) rfl rfl (by decide +kernel) (zd_X12_runsOf (20, .invokestatic 427, 3, 0, []) (List.mem_of_getElem? (i := 12) rfl)) [rnt, 0, 999] rfl ⟨zp_o1 hr9, zp_o0 (by decide) (by decide) (by decide) (by decide), zp_o0 (by decide) (by decide) (by decide) (by decide), trivial⟩ (Nat.le_of_ble_eq_true rfl) trivial (fun al hal rnw Pw Gw hextw hfrw hokw hcsw hpsiw => ?_)
    obtain rfl := List.mem_singleton.mp hal
    have hrw := zp_int (hokw _ rfl).1
    have yaw := hextw _ _ hp
    have yb3w := hextw _ _ q3
    have yb35w := hextw _ _ q35
    have yb37w := hextw _ _ q37
    obtain ⟨hPw, hGw, hrnw⟩ := hpsiw
    subst hPw
    subst hGw
    have hrnw : rnw = max 0 (min 999 rnt) := hrnw
    refine zp_iret (pc := 23) (n := rnw) hx hb hE hQ hU5 rfl (by decide) (zd_X12_runsOf (23, .ireturn, 1, 0, []) (List.mem_of_getElem? (i := 13) rfl)) (j := 0) rfl (zp_o0 (by omega) (by omega) (by omega) (by omega)) ?_
    rw [hps]
    refine ⟨rfl, (show rnw = zy_ru (zg_ew R St p1 p2 p3 (-1)) [] from ?_), ?_⟩
    · rw [zy_ru_n hy, hrnw, hrt]
      decide
    · exact fun j hj => by rw [hWh]; exact hSb j hj
  · refine zp_call (pc := 13) (how := 0) (idx := 423) (mi := 240) (S := []) hx hb hE hw heff hrm (zX_tel hW b3 b35 b37 i R (zg_sh St p1 p2 p3 (-1) (zg_po R 0 (-1)) (zg_po R 2 (-1))) M) rfl (j := 40) rfl rfl (by decide +kernel) (zd_X12_runsOf (13, .invokevirtual 423, 3, 0, []) (List.mem_of_getElem? (i := 9) rfl)) [(a : Int), 0, 60] rfl ⟨zp_o2 hp, zp_o0 (by decide) (by decide) (by decide) (by decide), zp_o1 (by first | assumption | exact zp_r1 (by omega) (by omega) | exact zg_mulr (by omega) (by omega) (by omega) (by omega)), trivial⟩ (Nat.le_of_ble_eq_true rfl) ⟨⟨h20, h3, h35, h37, hRh, hWh⟩, q3, q35, q37, hi6, r4, hR, hSb, hM1, hM12, hMs⟩ (fun al hal rnt Pt Gt hextt hfrt hokt hcst hpsit => ?_)
    obtain rfl := List.mem_singleton.mp hal
    have yat := hextt _ _ hp
    have yb3t := hextt _ _ q3
    have yb35t := hextt _ _ q35
    have yb37t := hextt _ _ q37
    obtain ⟨hPt, ⟨hvt, hnt⟩, hWt⟩ := hpsit
    have hvt : ∀ v, yw (zg_ew R St p1 p2 p3 (-1)) 0 M = some v → rnt = v ∧ -2147483648 ≤ v ∧ v ≤ 2147483648 := hvt
    have hnt : yw (zg_ew R St p1 p2 p3 (-1)) 0 M = none → rnt = 60 := hnt
    have hr9 : zk_rg 1 rnt := (hokt _ rfl).1.2.2
    subst hPt
    cases hy : yw (zg_ew R St p1 p2 p3 (-1)) 0 M with
    | none =>
      have hrt := hnt hy
      refine zp_const (pc := 16) hx hb (zd_X12_runsOf (16, .iconst 0, 1, 0, []) (List.mem_of_getElem? (i := 10) rfl)) rfl rfl ?_
      refine zp_const (pc := 17) hx hb (zd_X12_runsOf (17, .sipush 999, 3, 0, []) (List.mem_of_getElem? (i := 11) rfl)) rfl rfl ?_
      refine zp_call (pc := 20) (how := 1) (idx := 427) (mi := 245) (S := []) hx hb hE hw heff hrm (zX_wi0 hW) rfl (j := 45) rfl rfl (by decide +kernel) (zd_X12_runsOf (20, .invokestatic 427, 3, 0, []) (List.mem_of_getElem? (i := 12) rfl)) [rnt, 0, 999] rfl ⟨zp_o1 hr9, zp_o0 (by decide) (by decide) (by decide) (by decide), zp_o0 (by decide) (by decide) (by decide) (by decide), trivial⟩ (Nat.le_of_ble_eq_true rfl) trivial (fun al hal rnw Pw Gw hextw hfrw hokw hcsw hpsiw => ?_)
      obtain rfl := List.mem_singleton.mp hal
      have hrw := zp_int (hokw _ rfl).1
      have yaw := hextw _ _ hp
      have yb3w := hextw _ _ q3
      have yb35w := hextw _ _ q35
      have yb37w := hextw _ _ q37
      obtain ⟨hPw, hGw, hrnw⟩ := hpsiw
      subst hPw
      subst hGw
      have hrnw : rnw = max 0 (min 999 rnt) := hrnw
      refine zp_iret (pc := 23) (n := rnw) hx hb hE hQ hU5 rfl (by decide) (zd_X12_runsOf (23, .ireturn, 1, 0, []) (List.mem_of_getElem? (i := 13) rfl)) (j := 0) rfl (zp_o0 (by omega) (by omega) (by omega) (by omega)) ?_
      rw [hps]
      refine ⟨rfl, (show rnw = zy_ru (zg_ew R St p1 p2 p3 (-1)) M from ?_), ?_⟩
      · rw [zy_ru_n hy, hrnw, hrt]
        decide
      · exact fun j hj => by rw [hWt]; exact zg_stb hR hSb j hj
    | some v9 =>
      obtain ⟨hrt, hb9⟩ := hvt v9 hy
      refine zp_const (pc := 16) hx hb (zd_X12_runsOf (16, .iconst 0, 1, 0, []) (List.mem_of_getElem? (i := 10) rfl)) rfl rfl ?_
      refine zp_const (pc := 17) hx hb (zd_X12_runsOf (17, .sipush 999, 3, 0, []) (List.mem_of_getElem? (i := 11) rfl)) rfl rfl ?_
      refine zp_call (pc := 20) (how := 1) (idx := 427) (mi := 245) (S := []) hx hb hE hw heff hrm (zX_wi0 hW) rfl (j := 45) rfl rfl (by decide +kernel) (zd_X12_runsOf (20, .invokestatic 427, 3, 0, []) (List.mem_of_getElem? (i := 12) rfl)) [rnt, 0, 999] rfl ⟨zp_o1 hr9, zp_o0 (by decide) (by decide) (by decide) (by decide), zp_o0 (by decide) (by decide) (by decide) (by decide), trivial⟩ (Nat.le_of_ble_eq_true rfl) trivial (fun al hal rnw Pw Gw hextw hfrw hokw hcsw hpsiw => ?_)
      obtain rfl := List.mem_singleton.mp hal
      have hrw := zp_int (hokw _ rfl).1
      have yaw := hextw _ _ hp
      have yb3w := hextw _ _ q3
      have yb35w := hextw _ _ q35
      have yb37w := hextw _ _ q37
      obtain ⟨hPw, hGw, hrnw⟩ := hpsiw
      subst hPw
      subst hGw
      have hrnw : rnw = max 0 (min 999 rnt) := hrnw
      refine zp_iret (pc := 23) (n := rnw) hx hb hE hQ hU5 rfl (by decide) (zd_X12_runsOf (23, .ireturn, 1, 0, []) (List.mem_of_getElem? (i := 13) rfl)) (j := 0) rfl (zp_o0 (by omega) (by omega) (by omega) (by omega)) ?_
      rw [hps]
      refine ⟨rfl, (show rnw = zy_ru (zg_ew R St p1 p2 p3 (-1)) M from ?_), ?_⟩
      · exact (hrnw.trans (by rw [hrt])).trans (zy_ru_s hy).symm
      · exact fun j hj => by rw [hWt]; exact zg_stb hR hSb j hj
noncomputable def zK_spo : zk_K := (zt_mn 249, prog_14_method_70_code, 5, (Option.some Jvm.ClassFile.FieldType.int), 1, 12, [(2, 13, 0, 0), (0, 0, (-2147483648), 2147483647), (0, 0, 0, 100000), (0, 0, (-2147483648), 2147483647), (0, 0, 0, 5)], [(some (0, 0, (-2147483648), 2147483647), [])], [(13, 34, 0), (75, 1001, 0), (13, 38, 0), (13, 39, 0), (13, 40, 0), (77, 1001, 0)], (4, 200, 0, 0))
noncomputable def zφ_spo (b3 b35 b37 : Nat) (R St : Nat → Int) (M : List yK) : (Nat → Option Nat) → (Nat → Nat → Int) → List Int → Prop := fun P G ps => zg_rl (zp_0 ps) b3 b35 b37 R St M P G ∧ 0 ≤ zg_po R 2 (ps.getD 4 0) ∧ zg_po R 2 (ps.getD 4 0) ≤ 1000
noncomputable def zψ_spo (b3 b35 b37 : Nat) (R St : Nat → Int) (M : List yK) : (Nat → Option Nat) → (Nat → Nat → Int) → List Int → (Nat → Option Nat) → (Nat → Nat → Int) → Int → Prop := fun P G ps P' G' rn => P' = P ∧ rn = zy_sp (zg_ew R St (ps.getD 1 0) (ps.getD 2 0) (ps.getD 3 0) (ps.getD 4 0)) M (ps.getD 2 0) (zg_po R 2 (ps.getD 4 0)) ∧ ∀ j, j < 13 → -2147483648 ≤ G' b35 (2000 + j) ∧ G' b35 (2000 + j) ≤ 2147483648
theorem zX_spo {l : Launch} {w : zk_W} (hW : zh_W w) (b3 b35 b37 : Nat) (R St : Nat → Int) (M : List yK) : zk_metX l w zt_dv zt_TB zK_spo (zp_A (zφ_spo b3 b35 b37 R St M)) (zp_B (zψ_spo b3 b35 b37 R St M)) ∧ zk_cok w zt_TB zK_spo := by
  refine zp_methX (cn := "WoundTownModel") zp_lkall hW (pl := 1846) rfl (by decide +kernel) (fun p e Rm s m args below meth c Q u hx hb hE hQ hU5 heff hnL hok hφ => ?_)
  have hw := hW.1
  obtain ⟨p0, p1, p2, p3, p4, hps, k0, k1, k2, k3, k4⟩ := zp_ps5 hok
  obtain ⟨a, rfl, hp⟩ := zp_this k0
  have hrm : zk_Kr (zk_ev (zt_types, zp_lk, zt_dv, [], [], zp_lc, zK_spo)) = zk_Kr zK_spo := rfl
  rw [hps] at hφ ⊢
  have hi1 := zp_int k1
  have hi2 := zp_int k2
  have hi3 := zp_int k3
  have hi4 := zp_int k4
  have hφ : zg_rl a b3 b35 b37 R St M u.1 (zp_n u.2.1) ∧ 0 ≤ zg_po R 2 p4 ∧ zg_po R 2 p4 ≤ 1000 := hφ
  obtain ⟨⟨⟨⟨g20, e3, e35, e37, eR, eS⟩, q3, q35, q37, hR, hSt⟩, hlaw⟩, hx1⟩ := hφ
  have n3 : b3 ≠ b35 := zp_pne q3 q35 (by decide)
  show zp_J p l e Rm s m args below meth c Q w u [] 0 [(0, 2, (a : Int)), (1, 0, p1), (2, 0, p2), (3, 0, p3), (4, 0, p4)] [] u.1 (zp_n u.2.1)
  refine zp_load (pc := 0) hx hb (zd_X12_speedsOf (0, .aload_n 0, 1, 0, []) (List.mem_of_getElem? (i := 0) rfl)) rfl (j := 0) rfl ?_
  refine zp_load (pc := 1) hx hb (zd_X12_speedsOf (1, .iload_n 1, 1, 0, []) (List.mem_of_getElem? (i := 1) rfl)) rfl (j := 1) rfl ?_
  refine zp_load (pc := 2) hx hb (zd_X12_speedsOf (2, .iload_n 2, 1, 0, []) (List.mem_of_getElem? (i := 2) rfl)) rfl (j := 2) rfl ?_
  refine zp_load (pc := 3) hx hb (zd_X12_speedsOf (3, .iload_n 3, 1, 0, []) (List.mem_of_getElem? (i := 3) rfl)) rfl (j := 3) rfl ?_
  refine zp_load (pc := 4) hx hb (zd_X12_speedsOf (4, .iload 4, 2, 0, []) (List.mem_of_getElem? (i := 4) rfl)) rfl (j := 4) rfl ?_
  refine zp_call (pc := 6) (how := 0) (idx := 417) (mi := 239) (S := []) hx hb hE hw heff hrm (zX_shr hW b3 b35 R St) rfl (j := 39) rfl rfl (by decide +kernel) (zd_X12_speedsOf (6, .invokevirtual 417, 3, 0, []) (List.mem_of_getElem? (i := 5) rfl)) [(a : Int), p1, p2, p3, p4] rfl ⟨zp_o2 hp, zp_o0 (by omega) (by omega) (by omega) (by omega), zp_o0 (by omega) (by omega) (by omega) (by omega), zp_o0 (by omega) (by omega) (by omega) (by omega), zp_o0 (by omega) (by omega) (by omega) (by omega), trivial⟩ (Nat.le_of_ble_eq_true rfl) ⟨⟨e3, e35, eR, eS⟩, q3, q35, hR⟩ (fun al hal rnh Ph Gh hexth hfrh hokh hcsh hpsih => ?_)
  obtain rfl := List.mem_singleton.mp hal
  have yah := hexth _ _ hp
  have yb3h := hexth _ _ q3
  have yb35h := hexth _ _ q35
  have yb37h := hexth _ _ q37
  obtain ⟨hPh, hWh⟩ := hpsih
  have hWh : ∀ j, Gh b35 (2000 + j) = (zg_sh St p1 p2 p3 p4 (zg_po R 0 p4) (zg_po R 2 p4)) j := hWh
  have h20 : Gh a 20 = 0 := (zp_nf hfrh hp rfl).trans g20
  have h3 : Gh a 3 = (b3 : Int) := (zp_nf hfrh hp rfl).trans e3
  have h35 : Gh a 35 = (b35 : Int) := (zp_nf hfrh hp rfl).trans e35
  have h37 : Gh a 37 = (b37 : Int) := (zp_nf hfrh hp rfl).trans e37
  have hRh : ∀ j, Gh b3 (2000 + j) = R j := fun j => (zp_nc hfrh q3 rfl _).trans (eR j)
  subst hPh
  have hSb := zg_shb (t := p1) (pw := p2) (h := p3) (p := p4) (o := zg_po R 0 p4) (l := zg_po R 2 p4) hSt (by omega) (by omega) (by omega) (by omega) (zg_pob hR (by decide) (by omega)) (zg_pob hR (by decide) (by omega))
  refine zp_load (pc := 9) hx hb (zd_X12_speedsOf (9, .aload_n 0, 1, 0, []) (List.mem_of_getElem? (i := 6) rfl)) rfl (j := 0) rfl ?_
  refine zp_const (pc := 10) hx hb (zd_X12_speedsOf (10, .iconst 1, 1, 0, []) (List.mem_of_getElem? (i := 7) rfl)) rfl rfl ?_
  refine zp_load (pc := 11) hx hb (zd_X12_speedsOf (11, .iload_n 2, 1, 0, []) (List.mem_of_getElem? (i := 8) rfl)) rfl (j := 2) rfl ?_
  refine zp_const (pc := 12) hx hb (zd_X12_speedsOf (12, .bipush 10, 2, 0, []) (List.mem_of_getElem? (i := 9) rfl)) rfl rfl ?_
  refine zp_idivx (n := (p2 / 10)) (pc := 14) hx hb (zd_X12_speedsOf (14, .idiv, 1, 0, []) (List.mem_of_getElem? (i := 10) rfl)) (by decide) (by first | exact Int.tdiv_eq_ediv_of_nonneg (by omega) | exact Int.tdiv_eq_ediv (by omega)) (zp_r0 (by omega) (by omega)) ?_
  refine zp_i2l (pc := 15) hx hb (zd_X12_speedsOf (15, .i2l, 1, 0, []) (List.mem_of_getElem? (i := 11) rfl)) ?_
  refine zp_ldc2 (pc := 16) hx hb hE (zd_X12_speedsOf (16, .ldc2_w 224, 3, 0, []) (List.mem_of_getElem? (i := 12) rfl)) (j := 88) rfl ?_
  refine zp_load (pc := 19) hx hb (zd_X12_speedsOf (19, .aload_n 0, 1, 0, []) (List.mem_of_getElem? (i := 13) rfl)) rfl (j := 0) rfl ?_
  refine zp_load (pc := 20) hx hb (zd_X12_speedsOf (20, .iload 4, 2, 0, []) (List.mem_of_getElem? (i := 14) rfl)) rfl (j := 4) rfl ?_
  refine zp_const (pc := 22) hx hb (zd_X12_speedsOf (22, .iconst 2, 1, 0, []) (List.mem_of_getElem? (i := 15) rfl)) rfl rfl ?_
  refine zp_call (pc := 23) (how := 0) (idx := 207) (mi := 195) (S := [(1, 5), (1, (p2 / 10)), (0, 1), (2, (a : Int))]) hx hb hE hw heff hrm (zX_ofx hW b3) rfl (j := 6) rfl rfl (by decide +kernel) (zd_X12_speedsOf (23, .invokevirtual 207, 3, 0, []) (List.mem_of_getElem? (i := 16) rfl)) [(a : Int), p4, 2] rfl ⟨zp_o2 hp, zp_o0 (by omega) (by omega) (by omega) (by omega), zp_o0 (by decide) (by decide) (by decide) (by decide), trivial⟩ (Nat.le_of_ble_eq_true rfl) ⟨h3, q3, fun j hj => by rw [hRh]; exact hR j hj⟩ (fun al hal rno Po Go hexto hfro hoko hcso hpsio => ?_)
  obtain rfl := List.mem_singleton.mp hal
  have hro := zp_int (hoko _ rfl).1
  have yao := hexto _ _ hp
  have yb3o := hexto _ _ q3
  have yb35o := hexto _ _ q35
  have yb37o := hexto _ _ q37
  obtain ⟨hPo, hGo, hro⟩ := hpsio
  subst hPo
  subst hGo
  have hro9 : rno = zg_po R 2 p4 := by
    have h9 : rno = Go b3 (2000 + (3 * p4.toNat + (11 + (2 : Int).toNat))) := hro
    rw [h9, hRh]
    unfold zg_po
    rw [if_neg (by omega)]
    rfl
  refine zp_i2l (pc := 26) hx hb (zd_X12_speedsOf (26, .i2l, 1, 0, []) (List.mem_of_getElem? (i := 17) rfl)) ?_
  refine zp_lmulx (n := (5 * rno)) (pc := 27) hx hb (zd_X12_speedsOf (27, .lmul, 1, 0, []) (List.mem_of_getElem? (i := 18) rfl)) rfl (by first | exact zg_mulr (by omega) (by omega) (by omega) (by omega) | exact zp_r1 (by omega) (by omega)) ?_
  refine zp_laddx (n := ((p2 / 10) + (5 * rno))) (pc := 28) hx hb (zd_X12_speedsOf (28, .ladd, 1, 0, []) (List.mem_of_getElem? (i := 19) rfl)) rfl (zp_r1 (by omega) (by omega)) ?_
  rcases hlaw with ⟨r4, hM0⟩ | ⟨i, hi6, r4, hM1, hM12, hMs⟩
  · subst hM0
    refine zp_call (pc := 29) (how := 0) (idx := 423) (mi := 240) (S := []) hx hb hE hw heff hrm (zX_tl0 hW b3) rfl (j := 40) rfl rfl (by decide +kernel) (zd_X12_speedsOf (29, .invokevirtual 423, 3, 0, []) (List.mem_of_getElem? (i := 20) rfl)) [(a : Int), 1, ((p2 / 10) + (5 * rno))] rfl ⟨zp_o2 hp, zp_o0 (by decide) (by decide) (by decide) (by decide), zp_o1 (by first | assumption | exact zp_r1 (by omega) (by omega) | exact zg_mulr (by omega) (by omega) (by omega) (by omega)), trivial⟩ (Nat.le_of_ble_eq_true rfl) ⟨h3, q3, (hRh 4).trans r4⟩ (fun al hal rnt Pt Gt hextt hfrt hokt hcst hpsit => ?_)
    obtain rfl := List.mem_singleton.mp hal
    have yat := hextt _ _ hp
    have yb3t := hextt _ _ q3
    have yb35t := hextt _ _ q35
    have yb37t := hextt _ _ q37
    obtain ⟨hPt, hGt, hrt⟩ := hpsit
    have hrt : rnt = ((p2 / 10) + (5 * rno)) := hrt
    have hr9 : zk_rg 1 rnt := (hokt _ rfl).1.2.2
    subst hPt
    subst hGt
    have hy : yw (zg_ew R St p1 p2 p3 p4) 1 [] = none := rfl
    refine zp_const (pc := 32) hx hb (zd_X12_speedsOf (32, .iconst 0, 1, 0, []) (List.mem_of_getElem? (i := 21) rfl)) rfl rfl ?_
    refine zp_const (pc := 33) hx hb (zd_X12_speedsOf (33, .bipush 60, 2, 0, []) (List.mem_of_getElem? (i := 22) rfl)) rfl rfl ?_
    refine zp_call (pc := 35) (how := 1) (idx := 427) (mi := 245) (S := []) hx hb hE hw heff hrm (zX_wi0 hW) rfl (j := 45) rfl rfl (by decide +kernel) (zd_X12_speedsOf (35, .invokestatic 427, 3, 0, []) (List.mem_of_getElem? (i := 23) rfl)) [rnt, 0, 60] rfl ⟨zp_o1 hr9, zp_o0 (by decide) (by decide) (by decide) (by decide), zp_o0 (by decide) (by decide) (by decide) (by decide), trivial⟩ (Nat.le_of_ble_eq_true rfl) trivial (fun al hal rnw Pw Gw hextw hfrw hokw hcsw hpsiw => ?_)
    obtain rfl := List.mem_singleton.mp hal
    have hrw := zp_int (hokw _ rfl).1
    have yaw := hextw _ _ hp
    have yb3w := hextw _ _ q3
    have yb35w := hextw _ _ q35
    have yb37w := hextw _ _ q37
    obtain ⟨hPw, hGw, hrnw⟩ := hpsiw
    subst hPw
    subst hGw
    have hrnw : rnw = max 0 (min 60 rnt) := hrnw
    refine zp_iret (pc := 38) (n := rnw) hx hb hE hQ hU5 rfl (by decide) (zd_X12_speedsOf (38, .ireturn, 1, 0, []) (List.mem_of_getElem? (i := 24) rfl)) (j := 0) rfl (zp_o0 (by omega) (by omega) (by omega) (by omega)) ?_
    rw [hps]
    refine ⟨rfl, (show rnw = zy_sp (zg_ew R St p1 p2 p3 p4) [] p2 (zg_po R 2 p4) from ?_), ?_⟩
    · rw [zy_sp_n hy, hrnw, hrt]
      rw [hro9]
    · exact fun j hj => by rw [hWh]; exact hSb j hj
  · refine zp_call (pc := 29) (how := 0) (idx := 423) (mi := 240) (S := []) hx hb hE hw heff hrm (zX_tel hW b3 b35 b37 i R (zg_sh St p1 p2 p3 p4 (zg_po R 0 p4) (zg_po R 2 p4)) M) rfl (j := 40) rfl rfl (by decide +kernel) (zd_X12_speedsOf (29, .invokevirtual 423, 3, 0, []) (List.mem_of_getElem? (i := 20) rfl)) [(a : Int), 1, ((p2 / 10) + (5 * rno))] rfl ⟨zp_o2 hp, zp_o0 (by decide) (by decide) (by decide) (by decide), zp_o1 (by first | assumption | exact zp_r1 (by omega) (by omega) | exact zg_mulr (by omega) (by omega) (by omega) (by omega)), trivial⟩ (Nat.le_of_ble_eq_true rfl) ⟨⟨h20, h3, h35, h37, hRh, hWh⟩, q3, q35, q37, hi6, r4, hR, hSb, hM1, hM12, hMs⟩ (fun al hal rnt Pt Gt hextt hfrt hokt hcst hpsit => ?_)
    obtain rfl := List.mem_singleton.mp hal
    have yat := hextt _ _ hp
    have yb3t := hextt _ _ q3
    have yb35t := hextt _ _ q35
    have yb37t := hextt _ _ q37
    obtain ⟨hPt, ⟨hvt, hnt⟩, hWt⟩ := hpsit
    have hvt : ∀ v, yw (zg_ew R St p1 p2 p3 p4) 1 M = some v → rnt = v ∧ -2147483648 ≤ v ∧ v ≤ 2147483648 := hvt
    have hnt : yw (zg_ew R St p1 p2 p3 p4) 1 M = none → rnt = ((p2 / 10) + (5 * rno)) := hnt
    have hr9 : zk_rg 1 rnt := (hokt _ rfl).1.2.2
    subst hPt
    cases hy : yw (zg_ew R St p1 p2 p3 p4) 1 M with
    | none =>
      have hrt := hnt hy
      refine zp_const (pc := 32) hx hb (zd_X12_speedsOf (32, .iconst 0, 1, 0, []) (List.mem_of_getElem? (i := 21) rfl)) rfl rfl ?_
      refine zp_const (pc := 33) hx hb (zd_X12_speedsOf (33, .bipush 60, 2, 0, []) (List.mem_of_getElem? (i := 22) rfl)) rfl rfl ?_
      refine zp_call (pc := 35) (how := 1) (idx := 427) (mi := 245) (S := []) hx hb hE hw heff hrm (zX_wi0 hW) rfl (j := 45) rfl rfl (by decide +kernel) (zd_X12_speedsOf (35, .invokestatic 427, 3, 0, []) (List.mem_of_getElem? (i := 23) rfl)) [rnt, 0, 60] rfl ⟨zp_o1 hr9, zp_o0 (by decide) (by decide) (by decide) (by decide), zp_o0 (by decide) (by decide) (by decide) (by decide), trivial⟩ (Nat.le_of_ble_eq_true rfl) trivial (fun al hal rnw Pw Gw hextw hfrw hokw hcsw hpsiw => ?_)
      obtain rfl := List.mem_singleton.mp hal
      have hrw := zp_int (hokw _ rfl).1
      have yaw := hextw _ _ hp
      have yb3w := hextw _ _ q3
      have yb35w := hextw _ _ q35
      have yb37w := hextw _ _ q37
      obtain ⟨hPw, hGw, hrnw⟩ := hpsiw
      subst hPw
      subst hGw
      have hrnw : rnw = max 0 (min 60 rnt) := hrnw
      refine zp_iret (pc := 38) (n := rnw) hx hb hE hQ hU5 rfl (by decide) (zd_X12_speedsOf (38, .ireturn, 1, 0, []) (List.mem_of_getElem? (i := 24) rfl)) (j := 0) rfl (zp_o0 (by omega) (by omega) (by omega) (by omega)) ?_
      rw [hps]
      refine ⟨rfl, (show rnw = zy_sp (zg_ew R St p1 p2 p3 p4) M p2 (zg_po R 2 p4) from ?_), ?_⟩
      · rw [zy_sp_n hy, hrnw, hrt]
        rw [hro9]
      · exact fun j hj => by rw [hWt]; exact zg_stb hR hSb j hj
    | some v9 =>
      obtain ⟨hrt, hb9⟩ := hvt v9 hy
      refine zp_const (pc := 32) hx hb (zd_X12_speedsOf (32, .iconst 0, 1, 0, []) (List.mem_of_getElem? (i := 21) rfl)) rfl rfl ?_
      refine zp_const (pc := 33) hx hb (zd_X12_speedsOf (33, .bipush 60, 2, 0, []) (List.mem_of_getElem? (i := 22) rfl)) rfl rfl ?_
      refine zp_call (pc := 35) (how := 1) (idx := 427) (mi := 245) (S := []) hx hb hE hw heff hrm (zX_wi0 hW) rfl (j := 45) rfl rfl (by decide +kernel) (zd_X12_speedsOf (35, .invokestatic 427, 3, 0, []) (List.mem_of_getElem? (i := 23) rfl)) [rnt, 0, 60] rfl ⟨zp_o1 hr9, zp_o0 (by decide) (by decide) (by decide) (by decide), zp_o0 (by decide) (by decide) (by decide) (by decide), trivial⟩ (Nat.le_of_ble_eq_true rfl) trivial (fun al hal rnw Pw Gw hextw hfrw hokw hcsw hpsiw => ?_)
      obtain rfl := List.mem_singleton.mp hal
      have hrw := zp_int (hokw _ rfl).1
      have yaw := hextw _ _ hp
      have yb3w := hextw _ _ q3
      have yb35w := hextw _ _ q35
      have yb37w := hextw _ _ q37
      obtain ⟨hPw, hGw, hrnw⟩ := hpsiw
      subst hPw
      subst hGw
      have hrnw : rnw = max 0 (min 60 rnt) := hrnw
      refine zp_iret (pc := 38) (n := rnw) hx hb hE hQ hU5 rfl (by decide) (zd_X12_speedsOf (38, .ireturn, 1, 0, []) (List.mem_of_getElem? (i := 24) rfl)) (j := 0) rfl (zp_o0 (by omega) (by omega) (by omega) (by omega)) ?_
      rw [hps]
      refine ⟨rfl, (show rnw = zy_sp (zg_ew R St p1 p2 p3 p4) M p2 (zg_po R 2 p4) from ?_), ?_⟩
      · exact (hrnw.trans (by rw [hrt])).trans (zy_sp_s hy).symm
      · exact fun j hj => by rw [hWt]; exact zg_stb hR hSb j hj
