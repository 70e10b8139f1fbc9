/-! part l0: the reference, orders: reckonAll, exactly -/
noncomputable def zK_rk9 : zk_K := (zt_mn 244, prog_14_method_64_code, 6, (Option.some Jvm.ClassFile.FieldType.long), 1, 12, [(2, 92, 0, 0), (0, 0, 20, 27), (1, 0, (-9223372036854775808), 9223372036854775807), (1, 0, (-9223372036854775808), 9223372036854775807)], [(some (1, 0, (-9223372036854775808), 9223372036854775807), [])], [(92, 38, 0)], (0, 0, 0, 0))
noncomputable def zφ_rk9 : (Nat → Option Nat) → (Nat → Nat → Int) → List Int → Prop := fun P G ps => (-2147483648 ≤ (ps.getD 2 0) ∧ (ps.getD 2 0) ≤ 2147483648) ∧ (-2147483648 ≤ (ps.getD 3 0) ∧ (ps.getD 3 0) ≤ 2147483648)
noncomputable def zψ_rk9 : (Nat → Option Nat) → (Nat → Nat → Int) → List Int → (Nat → Option Nat) → (Nat → Nat → Int) → Int → Prop := fun P G ps P' G' rn => P' = P ∧ (((ps.getD 1 0) = 23 ∨ (ps.getD 1 0) = 24) ∧ (ps.getD 3 0) = 0 → G' (zp_0 ps) 38 = 1 ∧ rn = 0) ∧ (¬ (((ps.getD 1 0) = 23 ∨ (ps.getD 1 0) = 24) ∧ (ps.getD 3 0) = 0) → rn = yd_v (ps.getD 1 0) (ps.getD 2 0) (ps.getD 3 0) ∧ G' (zp_0 ps) 38 = if (ps.getD 1 0) = 23 ∨ (ps.getD 1 0) = 24 then 0 else G (zp_0 ps) 38)
theorem zX_rk9 {l : Launch} {w : zk_W} (hW : zh_W w) : zk_metX l w zt_dv zt_TB zK_rk9 (zp_A zφ_rk9) (zp_B zψ_rk9) ∧ zk_cok w zt_TB zK_rk9 := by
  refine zp_methX (cn := "WoundTownModel") zp_lkall hW (pl := 1825) rfl (by decide +kernel) (fun p e R s m args below meth c Q u hx hb hE hQ hU5 heff hnL hok hφ => ?_)
  have hw := hW.1
  obtain ⟨p0, p1, p2, p3, hps, k0, k1, k2, k3⟩ := zp_ps4 hok
  obtain ⟨a, rfl, hp⟩ := zp_this k0
  have hrm : zk_Kr (zk_ev (zt_types, zp_lk, zt_dv, [], [], zp_lc, zK_rk9)) = zk_Kr zK_rk9 := rfl
  rw [hps] at hφ ⊢
  have hi1 := zp_int k1
  have hφ : (-2147483648 ≤ p2 ∧ p2 ≤ 2147483648) ∧ (-2147483648 ≤ p3 ∧ p3 ≤ 2147483648) := hφ
  obtain ⟨⟨x1, x2⟩, y1, y2⟩ := hφ
  refine zp_kn (k := 38) (a := a) hw (show zp_fd 92 38 = some (12, 0, 0, 0, 1) from rfl) rfl hp (fun hkbr => ?_)
  obtain ⟨br, hbr⟩ : ∃ z0 : Int, (zp_n u.2.1) a 38 = z0 := ⟨_, rfl⟩
  have hbrb := zp_int hkbr
  rw [hbr] at hbrb
  have hop : p1 = 20 ∨ p1 = 21 ∨ p1 = 22 ∨ p1 = 23 ∨ p1 = 24 ∨ p1 = 25 ∨ p1 = 26 ∨ p1 = 27 := by omega
  rcases hop with rfl | rfl | rfl | rfl | rfl | rfl | rfl | rfl
  · show zp_J p l e R s m args below meth c Q w u [] 0 [(0, 2, (a : Int)), (1, 0, 20), (2, 1, p2), (4, 1, p3)] [] u.1 (zp_n u.2.1)
    refine zp_load (pc := 0) hx hb (zd_X12_reckon (0, .iload_n 1, 1, 0, []) (List.mem_of_getElem? (i := 0) rfl)) rfl (j := 1) rfl ?_
    refine zp_tin (tgt := 44) (off := 43) (pc := 1) hx hb (zd_X12_reckon (1, .tableswitch 148 20 26 #[43, 48, 53, 58, 90, 122, 135], 43, 0, []) (List.mem_of_getElem? (i := 1) rfl)) (by decide) (by decide) (by decide) rfl ?_
    refine zp_load (pc := 44) hx hb (zd_X12_reckon (44, .lload_n 2, 1, 0, []) (List.mem_of_getElem? (i := 2) rfl)) rfl (j := 2) rfl ?_
    refine zp_load (pc := 45) hx hb (zd_X12_reckon (45, .lload 4, 2, 0, []) (List.mem_of_getElem? (i := 3) rfl)) rfl (j := 3) rfl ?_
    refine zp_laddx (n := (p2 + p3)) (pc := 47) hx hb (zd_X12_reckon (47, .ladd, 1, 0, []) (List.mem_of_getElem? (i := 4) rfl)) rfl (zp_r1 (by omega) (by omega)) ?_
    have ez : (zp_n u.2.1) a 38 = br := hbr
    refine zp_lret (pc := 48) (n := (p2 + p3)) hx hb hE hQ hU5 rfl (by decide) (zd_X12_reckon (48, .lreturn, 1, 0, []) (List.mem_of_getElem? (i := 5) rfl)) (j := 0) rfl (zp_o1 (by first | assumption | exact zp_r1 (by omega) (by omega))) ?_
    rw [hps]
    refine ⟨rfl, ?_⟩
    show (((20 : Int) = 23 ∨ (20 : Int) = 24) ∧ p3 = 0 → (zp_n u.2.1) a 38 = 1 ∧ (p2 + p3) = 0) ∧ (¬ (((20 : Int) = 23 ∨ (20 : Int) = 24) ∧ p3 = 0) → (p2 + p3) = yd_v (20 : Int) p2 p3 ∧ (zp_n u.2.1) a 38 = if (20 : Int) = 23 ∨ (20 : Int) = 24 then 0 else zp_n u.2.1 a 38)
    rw [ez]
    refine ⟨fun h => absurd h.1 (by decide), fun _ => ⟨?_, rfl⟩⟩
    exact zg_v20 p2 p3
  · show zp_J p l e R s m args below meth c Q w u [] 0 [(0, 2, (a : Int)), (1, 0, 21), (2, 1, p2), (4, 1, p3)] [] u.1 (zp_n u.2.1)
    refine zp_load (pc := 0) hx hb (zd_X12_reckon (0, .iload_n 1, 1, 0, []) (List.mem_of_getElem? (i := 0) rfl)) rfl (j := 1) rfl ?_
    refine zp_tin (tgt := 49) (off := 48) (pc := 1) hx hb (zd_X12_reckon (1, .tableswitch 148 20 26 #[43, 48, 53, 58, 90, 122, 135], 43, 0, []) (List.mem_of_getElem? (i := 1) rfl)) (by decide) (by decide) (by decide) rfl ?_
    refine zp_load (pc := 49) hx hb (zd_X12_reckon (49, .lload_n 2, 1, 0, []) (List.mem_of_getElem? (i := 6) rfl)) rfl (j := 2) rfl ?_
    refine zp_load (pc := 50) hx hb (zd_X12_reckon (50, .lload 4, 2, 0, []) (List.mem_of_getElem? (i := 7) rfl)) rfl (j := 3) rfl ?_
    refine zp_lsubx (n := (p2 - p3)) (pc := 52) hx hb (zd_X12_reckon (52, .lsub, 1, 0, []) (List.mem_of_getElem? (i := 8) rfl)) rfl (zp_r1 (by omega) (by omega)) ?_
    have ez : (zp_n u.2.1) a 38 = br := hbr
    refine zp_lret (pc := 53) (n := (p2 - p3)) hx hb hE hQ hU5 rfl (by decide) (zd_X12_reckon (53, .lreturn, 1, 0, []) (List.mem_of_getElem? (i := 9) rfl)) (j := 0) rfl (zp_o1 (by first | assumption | exact zp_r1 (by omega) (by omega))) ?_
    rw [hps]
    refine ⟨rfl, ?_⟩
    show (((21 : Int) = 23 ∨ (21 : Int) = 24) ∧ p3 = 0 → (zp_n u.2.1) a 38 = 1 ∧ (p2 - p3) = 0) ∧ (¬ (((21 : Int) = 23 ∨ (21 : Int) = 24) ∧ p3 = 0) → (p2 - p3) = yd_v (21 : Int) p2 p3 ∧ (zp_n u.2.1) a 38 = if (21 : Int) = 23 ∨ (21 : Int) = 24 then 0 else zp_n u.2.1 a 38)
    rw [ez]
    refine ⟨fun h => absurd h.1 (by decide), fun _ => ⟨?_, rfl⟩⟩
    exact zg_v21 p2 p3
  · show zp_J p l e R s m args below meth c Q w u [] 0 [(0, 2, (a : Int)), (1, 0, 22), (2, 1, p2), (4, 1, p3)] [] u.1 (zp_n u.2.1)
    refine zp_load (pc := 0) hx hb (zd_X12_reckon (0, .iload_n 1, 1, 0, []) (List.mem_of_getElem? (i := 0) rfl)) rfl (j := 1) rfl ?_
    refine zp_tin (tgt := 54) (off := 53) (pc := 1) hx hb (zd_X12_reckon (1, .tableswitch 148 20 26 #[43, 48, 53, 58, 90, 122, 135], 43, 0, []) (List.mem_of_getElem? (i := 1) rfl)) (by decide) (by decide) (by decide) rfl ?_
    refine zp_load (pc := 54) hx hb (zd_X12_reckon (54, .lload_n 2, 1, 0, []) (List.mem_of_getElem? (i := 10) rfl)) rfl (j := 2) rfl ?_
    refine zp_load (pc := 55) hx hb (zd_X12_reckon (55, .lload 4, 2, 0, []) (List.mem_of_getElem? (i := 11) rfl)) rfl (j := 3) rfl ?_
    refine zp_lmulx (n := (p2 * p3)) (pc := 57) hx hb (zd_X12_reckon (57, .lmul, 1, 0, []) (List.mem_of_getElem? (i := 12) rfl)) rfl (zg_mulr x1 x2 y1 y2) ?_
    have ez : (zp_n u.2.1) a 38 = br := hbr
    have hrg : zk_rg 1 ((p2 * p3)) := zg_mulr x1 x2 y1 y2
    refine zp_lret (pc := 58) (n := (p2 * p3)) hx hb hE hQ hU5 rfl (by decide) (zd_X12_reckon (58, .lreturn, 1, 0, []) (List.mem_of_getElem? (i := 13) rfl)) (j := 0) rfl (zp_o1 (by first | assumption | exact zp_r1 (by omega) (by omega))) ?_
    rw [hps]
    refine ⟨rfl, ?_⟩
    show (((22 : Int) = 23 ∨ (22 : Int) = 24) ∧ p3 = 0 → (zp_n u.2.1) a 38 = 1 ∧ (p2 * p3) = 0) ∧ (¬ (((22 : Int) = 23 ∨ (22 : Int) = 24) ∧ p3 = 0) → (p2 * p3) = yd_v (22 : Int) p2 p3 ∧ (zp_n u.2.1) a 38 = if (22 : Int) = 23 ∨ (22 : Int) = 24 then 0 else zp_n u.2.1 a 38)
    rw [ez]
    refine ⟨fun h => absurd h.1 (by decide), fun _ => ⟨?_, rfl⟩⟩
    exact zg_v22 p2 p3
  · show zp_J p l e R s m args below meth c Q w u [] 0 [(0, 2, (a : Int)), (1, 0, 23), (2, 1, p2), (4, 1, p3)] [] u.1 (zp_n u.2.1)
    by_cases hy0 : p3 = 0
    · refine zp_load (pc := 0) hx hb (zd_X12_reckon (0, .iload_n 1, 1, 0, []) (List.mem_of_getElem? (i := 0) rfl)) rfl (j := 1) rfl ?_
      refine zp_tin (tgt := 59) (off := 58) (pc := 1) hx hb (zd_X12_reckon (1, .tableswitch 148 20 26 #[43, 48, 53, 58, 90, 122, 135], 43, 0, []) (List.mem_of_getElem? (i := 1) rfl)) (by decide) (by decide) (by decide) rfl ?_
      refine zp_load (pc := 59) hx hb (zd_X12_reckon (59, .aload_n 0, 1, 0, []) (List.mem_of_getElem? (i := 14) rfl)) rfl (j := 0) rfl ?_
      refine zp_load (pc := 60) hx hb (zd_X12_reckon (60, .lload 4, 2, 0, []) (List.mem_of_getElem? (i := 15) rfl)) rfl (j := 3) rfl ?_
      refine zp_const (pc := 62) hx hb (zd_X12_reckon (62, .lconst 0, 1, 0, []) (List.mem_of_getElem? (i := 16) rfl)) rfl rfl ?_
      refine zp_lcmp (pc := 63) (tgt := 71) hx hb (zd_X12_reckon (63, .lcmp, 1, 0, []) (List.mem_of_getElem? (i := 17) rfl)) (zd_X12_reckon (64, .ifCond .ne 7, 3, 0, []) (List.mem_of_getElem? (i := 18) rfl)) rfl (fun (hc21 : ¬ p3 = 0) => ?_) (fun (hc21 : ¬ (¬ p3 = 0)) => ?_)
      · exfalso
        omega
      · refine zp_const (pc := 67) hx hb (zd_X12_reckon (67, .iconst 1, 1, 0, []) (List.mem_of_getElem? (i := 19) rfl)) rfl rfl ?_
        refine zp_goto (tgt := 72) (pc := 68) hx hb (zd_X12_reckon (68, .goto 4, 3, 0, []) (List.mem_of_getElem? (i := 20) rfl)) rfl ?_
        refine zp_putf (pc := 72) hx hb hE hw heff (zd_X12_reckon (72, .putfield 388, 3, 0, []) (List.mem_of_getElem? (i := 22) rfl)) (j := 56) rfl rfl rfl hp (zp_o0 (by decide) (by decide) (by decide) (by decide)) ?_
        refine zp_load (pc := 75) hx hb (zd_X12_reckon (75, .aload_n 0, 1, 0, []) (List.mem_of_getElem? (i := 23) rfl)) rfl (j := 0) rfl ?_
        refine zp_getf (n := 1) (pc := 76) hx hb hE hw (zd_X12_reckon (76, .getfield 388, 3, 0, []) (List.mem_of_getElem? (i := 24) rfl)) (j := 56) rfl rfl rfl hp zp_set_self ?_
        refine zp_if (pc := 79) (tgt := 86) hx hb (zd_X12_reckon (79, .ifCond .eq 7, 3, 0, []) (List.mem_of_getElem? (i := 25) rfl)) rfl (fun (hc22 : 1 = 0) => ?_) (fun (hc22 : ¬ (1 = 0)) => ?_)
        · exfalso
          omega
        · refine zp_const (pc := 82) hx hb (zd_X12_reckon (82, .lconst 0, 1, 0, []) (List.mem_of_getElem? (i := 26) rfl)) rfl rfl ?_
          refine zp_goto (tgt := 90) (pc := 83) hx hb (zd_X12_reckon (83, .goto 7, 3, 0, []) (List.mem_of_getElem? (i := 27) rfl)) rfl ?_
          have ez : (zp_set (zp_n u.2.1) a 38 1) a 38 = 1 := zp_set_self
          refine zp_lret (pc := 90) (n := 0) hx hb hE hQ hU5 rfl (by decide) (zd_X12_reckon (90, .lreturn, 1, 0, []) (List.mem_of_getElem? (i := 31) rfl)) (j := 0) rfl (zp_o1 (by first | assumption | exact zp_r1 (by omega) (by omega))) ?_
          rw [hps]
          refine ⟨rfl, ?_⟩
          show (((23 : Int) = 23 ∨ (23 : Int) = 24) ∧ p3 = 0 → (zp_set (zp_n u.2.1) a 38 1) a 38 = 1 ∧ 0 = 0) ∧ (¬ (((23 : Int) = 23 ∨ (23 : Int) = 24) ∧ p3 = 0) → 0 = yd_v (23 : Int) p2 p3 ∧ (zp_set (zp_n u.2.1) a 38 1) a 38 = if (23 : Int) = 23 ∨ (23 : Int) = 24 then 0 else zp_n u.2.1 a 38)
          rw [ez]
          exact ⟨fun _ => ⟨rfl, rfl⟩, fun h => absurd ⟨by decide, hy0⟩ h⟩
    · have hn0 : p3 ≠ 0 := hy0
      refine zp_load (pc := 0) hx hb (zd_X12_reckon (0, .iload_n 1, 1, 0, []) (List.mem_of_getElem? (i := 0) rfl)) rfl (j := 1) rfl ?_
      refine zp_tin (tgt := 59) (off := 58) (pc := 1) hx hb (zd_X12_reckon (1, .tableswitch 148 20 26 #[43, 48, 53, 58, 90, 122, 135], 43, 0, []) (List.mem_of_getElem? (i := 1) rfl)) (by decide) (by decide) (by decide) rfl ?_
      refine zp_load (pc := 59) hx hb (zd_X12_reckon (59, .aload_n 0, 1, 0, []) (List.mem_of_getElem? (i := 14) rfl)) rfl (j := 0) rfl ?_
      refine zp_load (pc := 60) hx hb (zd_X12_reckon (60, .lload 4, 2, 0, []) (List.mem_of_getElem? (i := 15) rfl)) rfl (j := 3) rfl ?_
      refine zp_const (pc := 62) hx hb (zd_X12_reckon (62, .lconst 0, 1, 0, []) (List.mem_of_getElem? (i := 16) rfl)) rfl rfl ?_
      refine zp_lcmp (pc := 63) (tgt := 71) hx hb (zd_X12_reckon (63, .lcmp, 1, 0, []) (List.mem_of_getElem? (i := 17) rfl)) (zd_X12_reckon (64, .ifCond .ne 7, 3, 0, []) (List.mem_of_getElem? (i := 18) rfl)) rfl (fun (hc23 : ¬ p3 = 0) => ?_) (fun (hc23 : ¬ (¬ p3 = 0)) => ?_)
      · refine zp_const (pc := 71) hx hb (zd_X12_reckon (71, .iconst 0, 1, 0, []) (List.mem_of_getElem? (i := 21) rfl)) rfl rfl ?_
        refine zp_putf (pc := 72) hx hb hE hw heff (zd_X12_reckon (72, .putfield 388, 3, 0, []) (List.mem_of_getElem? (i := 22) rfl)) (j := 56) rfl rfl rfl hp (zp_o0 (by decide) (by decide) (by decide) (by decide)) ?_
        refine zp_load (pc := 75) hx hb (zd_X12_reckon (75, .aload_n 0, 1, 0, []) (List.mem_of_getElem? (i := 23) rfl)) rfl (j := 0) rfl ?_
        refine zp_getf (n := 0) (pc := 76) hx hb hE hw (zd_X12_reckon (76, .getfield 388, 3, 0, []) (List.mem_of_getElem? (i := 24) rfl)) (j := 56) rfl rfl rfl hp zp_set_self ?_
        refine zp_if (pc := 79) (tgt := 86) hx hb (zd_X12_reckon (79, .ifCond .eq 7, 3, 0, []) (List.mem_of_getElem? (i := 25) rfl)) rfl (fun (hc24 : 0 = 0) => ?_) (fun (hc24 : ¬ (0 = 0)) => ?_)
        · refine zp_load (pc := 86) hx hb (zd_X12_reckon (86, .lload_n 2, 1, 0, []) (List.mem_of_getElem? (i := 28) rfl)) rfl (j := 2) rfl ?_
          refine zp_load (pc := 87) hx hb (zd_X12_reckon (87, .lload 4, 2, 0, []) (List.mem_of_getElem? (i := 29) rfl)) rfl (j := 3) rfl ?_
          refine zp_ldivx (n := (p2.tdiv p3)) (pc := 89) hx hb (zd_X12_reckon (89, .ldiv, 1, 0, []) (List.mem_of_getElem? (i := 30) rfl)) hn0 rfl (zp_r1 (by have := (zg_divr (b := p3) x1 x2).1; omega) (by have := (zg_divr (b := p3) x1 x2).2; omega)) ?_
          have ez : (zp_set (zp_n u.2.1) a 38 0) a 38 = 0 := zp_set_self
          have hrg : zk_rg 1 ((p2.tdiv p3)) := ⟨by have := (zg_divr (b := p3) x1 x2).1; show -9223372036854775808 ≤ _; omega, by have := (zg_divr (b := p3) x1 x2).2; show _ ≤ 9223372036854775807; omega⟩
          refine zp_lret (pc := 90) (n := (p2.tdiv p3)) hx hb hE hQ hU5 rfl (by decide) (zd_X12_reckon (90, .lreturn, 1, 0, []) (List.mem_of_getElem? (i := 31) rfl)) (j := 0) rfl (zp_o1 (by first | assumption | exact zp_r1 (by omega) (by omega))) ?_
          rw [hps]
          refine ⟨rfl, ?_⟩
          show (((23 : Int) = 23 ∨ (23 : Int) = 24) ∧ p3 = 0 → (zp_set (zp_n u.2.1) a 38 0) a 38 = 1 ∧ (p2.tdiv p3) = 0) ∧ (¬ (((23 : Int) = 23 ∨ (23 : Int) = 24) ∧ p3 = 0) → (p2.tdiv p3) = yd_v (23 : Int) p2 p3 ∧ (zp_set (zp_n u.2.1) a 38 0) a 38 = if (23 : Int) = 23 ∨ (23 : Int) = 24 then 0 else zp_n u.2.1 a 38)
          rw [ez]
          exact ⟨fun h => absurd h.2 hy0, fun _ => ⟨by unfold yd_v; rfl, rfl⟩⟩
        · exfalso
          omega
      · exfalso
        omega
  · show zp_J p l e R s m args below meth c Q w u [] 0 [(0, 2, (a : Int)), (1, 0, 24), (2, 1, p2), (4, 1, p3)] [] u.1 (zp_n u.2.1)
    by_cases hy0 : p3 = 0
    · refine zp_load (pc := 0) hx hb (zd_X12_reckon (0, .iload_n 1, 1, 0, []) (List.mem_of_getElem? (i := 0) rfl)) rfl (j := 1) rfl ?_
      refine zp_tin (tgt := 91) (off := 90) (pc := 1) hx hb (zd_X12_reckon (1, .tableswitch 148 20 26 #[43, 48, 53, 58, 90, 122, 135], 43, 0, []) (List.mem_of_getElem? (i := 1) rfl)) (by decide) (by decide) (by decide) rfl ?_
      refine zp_load (pc := 91) hx hb (zd_X12_reckon (91, .aload_n 0, 1, 0, []) (List.mem_of_getElem? (i := 32) rfl)) rfl (j := 0) rfl ?_
      refine zp_load (pc := 92) hx hb (zd_X12_reckon (92, .lload 4, 2, 0, []) (List.mem_of_getElem? (i := 33) rfl)) rfl (j := 3) rfl ?_
      refine zp_const (pc := 94) hx hb (zd_X12_reckon (94, .lconst 0, 1, 0, []) (List.mem_of_getElem? (i := 34) rfl)) rfl rfl ?_
      refine zp_lcmp (pc := 95) (tgt := 103) hx hb (zd_X12_reckon (95, .lcmp, 1, 0, []) (List.mem_of_getElem? (i := 35) rfl)) (zd_X12_reckon (96, .ifCond .ne 7, 3, 0, []) (List.mem_of_getElem? (i := 36) rfl)) rfl (fun (hc25 : ¬ p3 = 0) => ?_) (fun (hc25 : ¬ (¬ p3 = 0)) => ?_)
      · exfalso
        omega
      · refine zp_const (pc := 99) hx hb (zd_X12_reckon (99, .iconst 1, 1, 0, []) (List.mem_of_getElem? (i := 37) rfl)) rfl rfl ?_
        refine zp_goto (tgt := 104) (pc := 100) hx hb (zd_X12_reckon (100, .goto 4, 3, 0, []) (List.mem_of_getElem? (i := 38) rfl)) rfl ?_
        refine zp_putf (pc := 104) hx hb hE hw heff (zd_X12_reckon (104, .putfield 388, 3, 0, []) (List.mem_of_getElem? (i := 40) rfl)) (j := 56) rfl rfl rfl hp (zp_o0 (by decide) (by decide) (by decide) (by decide)) ?_
        refine zp_load (pc := 107) hx hb (zd_X12_reckon (107, .aload_n 0, 1, 0, []) (List.mem_of_getElem? (i := 41) rfl)) rfl (j := 0) rfl ?_
        refine zp_getf (n := 1) (pc := 108) hx hb hE hw (zd_X12_reckon (108, .getfield 388, 3, 0, []) (List.mem_of_getElem? (i := 42) rfl)) (j := 56) rfl rfl rfl hp zp_set_self ?_
        refine zp_if (pc := 111) (tgt := 118) hx hb (zd_X12_reckon (111, .ifCond .eq 7, 3, 0, []) (List.mem_of_getElem? (i := 43) rfl)) rfl (fun (hc26 : 1 = 0) => ?_) (fun (hc26 : ¬ (1 = 0)) => ?_)
        · exfalso
          omega
        · refine zp_const (pc := 114) hx hb (zd_X12_reckon (114, .lconst 0, 1, 0, []) (List.mem_of_getElem? (i := 44) rfl)) rfl rfl ?_
          refine zp_goto (tgt := 122) (pc := 115) hx hb (zd_X12_reckon (115, .goto 7, 3, 0, []) (List.mem_of_getElem? (i := 45) rfl)) rfl ?_
          have ez : (zp_set (zp_n u.2.1) a 38 1) a 38 = 1 := zp_set_self
          refine zp_lret (pc := 122) (n := 0) hx hb hE hQ hU5 rfl (by decide) (zd_X12_reckon (122, .lreturn, 1, 0, []) (List.mem_of_getElem? (i := 49) rfl)) (j := 0) rfl (zp_o1 (by first | assumption | exact zp_r1 (by omega) (by omega))) ?_
          rw [hps]
          refine ⟨rfl, ?_⟩
          show (((24 : Int) = 23 ∨ (24 : Int) = 24) ∧ p3 = 0 → (zp_set (zp_n u.2.1) a 38 1) a 38 = 1 ∧ 0 = 0) ∧ (¬ (((24 : Int) = 23 ∨ (24 : Int) = 24) ∧ p3 = 0) → 0 = yd_v (24 : Int) p2 p3 ∧ (zp_set (zp_n u.2.1) a 38 1) a 38 = if (24 : Int) = 23 ∨ (24 : Int) = 24 then 0 else zp_n u.2.1 a 38)
          rw [ez]
          exact ⟨fun _ => ⟨rfl, rfl⟩, fun h => absurd ⟨by decide, hy0⟩ h⟩
    · have hn0 : p3 ≠ 0 := hy0
      refine zp_load (pc := 0) hx hb (zd_X12_reckon (0, .iload_n 1, 1, 0, []) (List.mem_of_getElem? (i := 0) rfl)) rfl (j := 1) rfl ?_
      refine zp_tin (tgt := 91) (off := 90) (pc := 1) hx hb (zd_X12_reckon (1, .tableswitch 148 20 26 #[43, 48, 53, 58, 90, 122, 135], 43, 0, []) (List.mem_of_getElem? (i := 1) rfl)) (by decide) (by decide) (by decide) rfl ?_
      refine zp_load (pc := 91) hx hb (zd_X12_reckon (91, .aload_n 0, 1, 0, []) (List.mem_of_getElem? (i := 32) rfl)) rfl (j := 0) rfl ?_
      refine zp_load (pc := 92) hx hb (zd_X12_reckon (92, .lload 4, 2, 0, []) (List.mem_of_getElem? (i := 33) rfl)) rfl (j := 3) rfl ?_
      refine zp_const (pc := 94) hx hb (zd_X12_reckon (94, .lconst 0, 1, 0, []) (List.mem_of_getElem? (i := 34) rfl)) rfl rfl ?_
      refine zp_lcmp (pc := 95) (tgt := 103) hx hb (zd_X12_reckon (95, .lcmp, 1, 0, []) (List.mem_of_getElem? (i := 35) rfl)) (zd_X12_reckon (96, .ifCond .ne 7, 3, 0, []) (List.mem_of_getElem? (i := 36) rfl)) rfl (fun (hc27 : ¬ p3 = 0) => ?_) (fun (hc27 : ¬ (¬ p3 = 0)) => ?_)
      · refine zp_const (pc := 103) hx hb (zd_X12_reckon (103, .iconst 0, 1, 0, []) (List.mem_of_getElem? (i := 39) rfl)) rfl rfl ?_
        refine zp_putf (pc := 104) hx hb hE hw heff (zd_X12_reckon (104, .putfield 388, 3, 0, []) (List.mem_of_getElem? (i := 40) rfl)) (j := 56) rfl rfl rfl hp (zp_o0 (by decide) (by decide) (by decide) (by decide)) ?_
        refine zp_load (pc := 107) hx hb (zd_X12_reckon (107, .aload_n 0, 1, 0, []) (List.mem_of_getElem? (i := 41) rfl)) rfl (j := 0) rfl ?_
        refine zp_getf (n := 0) (pc := 108) hx hb hE hw (zd_X12_reckon (108, .getfield 388, 3, 0, []) (List.mem_of_getElem? (i := 42) rfl)) (j := 56) rfl rfl rfl hp zp_set_self ?_
        refine zp_if (pc := 111) (tgt := 118) hx hb (zd_X12_reckon (111, .ifCond .eq 7, 3, 0, []) (List.mem_of_getElem? (i := 43) rfl)) rfl (fun (hc28 : 0 = 0) => ?_) (fun (hc28 : ¬ (0 = 0)) => ?_)
        · refine zp_load (pc := 118) hx hb (zd_X12_reckon (118, .lload_n 2, 1, 0, []) (List.mem_of_getElem? (i := 46) rfl)) rfl (j := 2) rfl ?_
          refine zp_load (pc := 119) hx hb (zd_X12_reckon (119, .lload 4, 2, 0, []) (List.mem_of_getElem? (i := 47) rfl)) rfl (j := 3) rfl ?_
          refine zp_lremx (n := (p2.tmod p3)) (pc := 121) hx hb (zd_X12_reckon (121, .lrem, 1, 0, []) (List.mem_of_getElem? (i := 48) rfl)) hn0 rfl (zp_r1 (by have := (zg_modr (b := p3) x1 x2).1; omega) (by have := (zg_modr (b := p3) x1 x2).2; omega)) ?_
          have ez : (zp_set (zp_n u.2.1) a 38 0) a 38 = 0 := zp_set_self
          have hrg : zk_rg 1 ((p2.tmod p3)) := ⟨by have := (zg_modr (b := p3) x1 x2).1; show -9223372036854775808 ≤ _; omega, by have := (zg_modr (b := p3) x1 x2).2; show _ ≤ 9223372036854775807; omega⟩
          refine zp_lret (pc := 122) (n := (p2.tmod p3)) hx hb hE hQ hU5 rfl (by decide) (zd_X12_reckon (122, .lreturn, 1, 0, []) (List.mem_of_getElem? (i := 49) rfl)) (j := 0) rfl (zp_o1 (by first | assumption | exact zp_r1 (by omega) (by omega))) ?_
          rw [hps]
          refine ⟨rfl, ?_⟩
          show (((24 : Int) = 23 ∨ (24 : Int) = 24) ∧ p3 = 0 → (zp_set (zp_n u.2.1) a 38 0) a 38 = 1 ∧ (p2.tmod p3) = 0) ∧ (¬ (((24 : Int) = 23 ∨ (24 : Int) = 24) ∧ p3 = 0) → (p2.tmod p3) = yd_v (24 : Int) p2 p3 ∧ (zp_set (zp_n u.2.1) a 38 0) a 38 = if (24 : Int) = 23 ∨ (24 : Int) = 24 then 0 else zp_n u.2.1 a 38)
          rw [ez]
          exact ⟨fun h => absurd h.2 hy0, fun _ => ⟨by unfold yd_v; rfl, rfl⟩⟩
        · exfalso
          omega
      · exfalso
        omega
  · show zp_J p l e R s m args below meth c Q w u [] 0 [(0, 2, (a : Int)), (1, 0, 25), (2, 1, p2), (4, 1, p3)] [] u.1 (zp_n u.2.1)
    refine zp_load (pc := 0) hx hb (zd_X12_reckon (0, .iload_n 1, 1, 0, []) (List.mem_of_getElem? (i := 0) rfl)) rfl (j := 1) rfl ?_
    refine zp_tin (tgt := 123) (off := 122) (pc := 1) hx hb (zd_X12_reckon (1, .tableswitch 148 20 26 #[43, 48, 53, 58, 90, 122, 135], 43, 0, []) (List.mem_of_getElem? (i := 1) rfl)) (by decide) (by decide) (by decide) rfl ?_
    refine zp_load (pc := 123) hx hb (zd_X12_reckon (123, .lload_n 2, 1, 0, []) (List.mem_of_getElem? (i := 50) rfl)) rfl (j := 2) rfl ?_
    refine zp_load (pc := 124) hx hb (zd_X12_reckon (124, .lload 4, 2, 0, []) (List.mem_of_getElem? (i := 51) rfl)) rfl (j := 3) rfl ?_
    refine zp_lcmp (pc := 126) (tgt := 134) hx hb (zd_X12_reckon (126, .lcmp, 1, 0, []) (List.mem_of_getElem? (i := 52) rfl)) (zd_X12_reckon (127, .ifCond .ge 7, 3, 0, []) (List.mem_of_getElem? (i := 53) rfl)) rfl (fun (hc29 : p3 ≤ p2) => ?_) (fun (hc29 : ¬ (p3 ≤ p2)) => ?_)
    · refine zp_const (pc := 134) hx hb (zd_X12_reckon (134, .lconst 0, 1, 0, []) (List.mem_of_getElem? (i := 56) rfl)) rfl rfl ?_
      have ez : (zp_n u.2.1) a 38 = br := hbr
      refine zp_lret (pc := 135) (n := 0) hx hb hE hQ hU5 rfl (by decide) (zd_X12_reckon (135, .lreturn, 1, 0, []) (List.mem_of_getElem? (i := 57) rfl)) (j := 0) rfl (zp_o1 (by first | assumption | exact zp_r1 (by omega) (by omega))) ?_
      rw [hps]
      refine ⟨rfl, ?_⟩
      show (((25 : Int) = 23 ∨ (25 : Int) = 24) ∧ p3 = 0 → (zp_n u.2.1) a 38 = 1 ∧ 0 = 0) ∧ (¬ (((25 : Int) = 23 ∨ (25 : Int) = 24) ∧ p3 = 0) → 0 = yd_v (25 : Int) p2 p3 ∧ (zp_n u.2.1) a 38 = if (25 : Int) = 23 ∨ (25 : Int) = 24 then 0 else zp_n u.2.1 a 38)
      rw [ez]
      refine ⟨fun h => absurd h.1 (by decide), fun _ => ⟨?_, rfl⟩⟩
      first | exact (zg_v25 p2 p3).1 (by omega) | exact (zg_v25 p2 p3).2 (by omega)
    · refine zp_const (pc := 130) hx hb (zd_X12_reckon (130, .lconst 1, 1, 0, []) (List.mem_of_getElem? (i := 54) rfl)) rfl rfl ?_
      refine zp_goto (tgt := 135) (pc := 131) hx hb (zd_X12_reckon (131, .goto 4, 3, 0, []) (List.mem_of_getElem? (i := 55) rfl)) rfl ?_
      have ez : (zp_n u.2.1) a 38 = br := hbr
      refine zp_lret (pc := 135) (n := 1) hx hb hE hQ hU5 rfl (by decide) (zd_X12_reckon (135, .lreturn, 1, 0, []) (List.mem_of_getElem? (i := 57) rfl)) (j := 0) rfl (zp_o1 (by first | assumption | exact zp_r1 (by omega) (by omega))) ?_
      rw [hps]
      refine ⟨rfl, ?_⟩
      show (((25 : Int) = 23 ∨ (25 : Int) = 24) ∧ p3 = 0 → (zp_n u.2.1) a 38 = 1 ∧ 1 = 0) ∧ (¬ (((25 : Int) = 23 ∨ (25 : Int) = 24) ∧ p3 = 0) → 1 = yd_v (25 : Int) p2 p3 ∧ (zp_n u.2.1) a 38 = if (25 : Int) = 23 ∨ (25 : Int) = 24 then 0 else zp_n u.2.1 a 38)
      rw [ez]
      refine ⟨fun h => absurd h.1 (by decide), fun _ => ⟨?_, rfl⟩⟩
      first | exact (zg_v25 p2 p3).1 (by omega) | exact (zg_v25 p2 p3).2 (by omega)
  · show zp_J p l e R s m args below meth c Q w u [] 0 [(0, 2, (a : Int)), (1, 0, 26), (2, 1, p2), (4, 1, p3)] [] u.1 (zp_n u.2.1)
    refine zp_load (pc := 0) hx hb (zd_X12_reckon (0, .iload_n 1, 1, 0, []) (List.mem_of_getElem? (i := 0) rfl)) rfl (j := 1) rfl ?_
    refine zp_tin (tgt := 136) (off := 135) (pc := 1) hx hb (zd_X12_reckon (1, .tableswitch 148 20 26 #[43, 48, 53, 58, 90, 122, 135], 43, 0, []) (List.mem_of_getElem? (i := 1) rfl)) (by decide) (by decide) (by decide) rfl ?_
    refine zp_load (pc := 136) hx hb (zd_X12_reckon (136, .lload_n 2, 1, 0, []) (List.mem_of_getElem? (i := 58) rfl)) rfl (j := 2) rfl ?_
    refine zp_load (pc := 137) hx hb (zd_X12_reckon (137, .lload 4, 2, 0, []) (List.mem_of_getElem? (i := 59) rfl)) rfl (j := 3) rfl ?_
    refine zp_lcmp (pc := 139) (tgt := 147) hx hb (zd_X12_reckon (139, .lcmp, 1, 0, []) (List.mem_of_getElem? (i := 60) rfl)) (zd_X12_reckon (140, .ifCond .le 7, 3, 0, []) (List.mem_of_getElem? (i := 61) rfl)) rfl (fun (hc30 : p2 ≤ p3) => ?_) (fun (hc30 : ¬ (p2 ≤ p3)) => ?_)
    · refine zp_const (pc := 147) hx hb (zd_X12_reckon (147, .lconst 0, 1, 0, []) (List.mem_of_getElem? (i := 64) rfl)) rfl rfl ?_
      have ez : (zp_n u.2.1) a 38 = br := hbr
      refine zp_lret (pc := 148) (n := 0) hx hb hE hQ hU5 rfl (by decide) (zd_X12_reckon (148, .lreturn, 1, 0, []) (List.mem_of_getElem? (i := 65) rfl)) (j := 0) rfl (zp_o1 (by first | assumption | exact zp_r1 (by omega) (by omega))) ?_
      rw [hps]
      refine ⟨rfl, ?_⟩
      show (((26 : Int) = 23 ∨ (26 : Int) = 24) ∧ p3 = 0 → (zp_n u.2.1) a 38 = 1 ∧ 0 = 0) ∧ (¬ (((26 : Int) = 23 ∨ (26 : Int) = 24) ∧ p3 = 0) → 0 = yd_v (26 : Int) p2 p3 ∧ (zp_n u.2.1) a 38 = if (26 : Int) = 23 ∨ (26 : Int) = 24 then 0 else zp_n u.2.1 a 38)
      rw [ez]
      refine ⟨fun h => absurd h.1 (by decide), fun _ => ⟨?_, rfl⟩⟩
      first | exact (zg_v26 p2 p3).1 (by omega) | exact (zg_v26 p2 p3).2 (by omega)
    · refine zp_const (pc := 143) hx hb (zd_X12_reckon (143, .lconst 1, 1, 0, []) (List.mem_of_getElem? (i := 62) rfl)) rfl rfl ?_
      refine zp_goto (tgt := 148) (pc := 144) hx hb (zd_X12_reckon (144, .goto 4, 3, 0, []) (List.mem_of_getElem? (i := 63) rfl)) rfl ?_
      have ez : (zp_n u.2.1) a 38 = br := hbr
      refine zp_lret (pc := 148) (n := 1) hx hb hE hQ hU5 rfl (by decide) (zd_X12_reckon (148, .lreturn, 1, 0, []) (List.mem_of_getElem? (i := 65) rfl)) (j := 0) rfl (zp_o1 (by first | assumption | exact zp_r1 (by omega) (by omega))) ?_
      rw [hps]
      refine ⟨rfl, ?_⟩
      show (((26 : Int) = 23 ∨ (26 : Int) = 24) ∧ p3 = 0 → (zp_n u.2.1) a 38 = 1 ∧ 1 = 0) ∧ (¬ (((26 : Int) = 23 ∨ (26 : Int) = 24) ∧ p3 = 0) → 1 = yd_v (26 : Int) p2 p3 ∧ (zp_n u.2.1) a 38 = if (26 : Int) = 23 ∨ (26 : Int) = 24 then 0 else zp_n u.2.1 a 38)
      rw [ez]
      refine ⟨fun h => absurd h.1 (by decide), fun _ => ⟨?_, rfl⟩⟩
      first | exact (zg_v26 p2 p3).1 (by omega) | exact (zg_v26 p2 p3).2 (by omega)
  · show zp_J p l e R s m args below meth c Q w u [] 0 [(0, 2, (a : Int)), (1, 0, 27), (2, 1, p2), (4, 1, p3)] [] u.1 (zp_n u.2.1)
    refine zp_load (pc := 0) hx hb (zd_X12_reckon (0, .iload_n 1, 1, 0, []) (List.mem_of_getElem? (i := 0) rfl)) rfl (j := 1) rfl ?_
    refine zp_tout (tgt := 149) (pc := 1) hx hb (zd_X12_reckon (1, .tableswitch 148 20 26 #[43, 48, 53, 58, 90, 122, 135], 43, 0, []) (List.mem_of_getElem? (i := 1) rfl)) (by decide) rfl ?_
    refine zp_load (pc := 149) hx hb (zd_X12_reckon (149, .lload_n 2, 1, 0, []) (List.mem_of_getElem? (i := 66) rfl)) rfl (j := 2) rfl ?_
    refine zp_load (pc := 150) hx hb (zd_X12_reckon (150, .lload 4, 2, 0, []) (List.mem_of_getElem? (i := 67) rfl)) rfl (j := 3) rfl ?_
    refine zp_lcmp (pc := 152) (tgt := 160) hx hb (zd_X12_reckon (152, .lcmp, 1, 0, []) (List.mem_of_getElem? (i := 68) rfl)) (zd_X12_reckon (153, .ifCond .ne 7, 3, 0, []) (List.mem_of_getElem? (i := 69) rfl)) rfl (fun (hc31 : ¬ p2 = p3) => ?_) (fun (hc31 : ¬ (¬ p2 = p3)) => ?_)
    · refine zp_const (pc := 160) hx hb (zd_X12_reckon (160, .lconst 0, 1, 0, []) (List.mem_of_getElem? (i := 72) rfl)) rfl rfl ?_
      have ez : (zp_n u.2.1) a 38 = br := hbr
      refine zp_lret (pc := 161) (n := 0) hx hb hE hQ hU5 rfl (by decide) (zd_X12_reckon (161, .lreturn, 1, 0, []) (List.mem_of_getElem? (i := 73) rfl)) (j := 0) rfl (zp_o1 (by first | assumption | exact zp_r1 (by omega) (by omega))) ?_
      rw [hps]
      refine ⟨rfl, ?_⟩
      show (((27 : Int) = 23 ∨ (27 : Int) = 24) ∧ p3 = 0 → (zp_n u.2.1) a 38 = 1 ∧ 0 = 0) ∧ (¬ (((27 : Int) = 23 ∨ (27 : Int) = 24) ∧ p3 = 0) → 0 = yd_v (27 : Int) p2 p3 ∧ (zp_n u.2.1) a 38 = if (27 : Int) = 23 ∨ (27 : Int) = 24 then 0 else zp_n u.2.1 a 38)
      rw [ez]
      refine ⟨fun h => absurd h.1 (by decide), fun _ => ⟨?_, rfl⟩⟩
      first | exact (zg_v27 p2 p3).1 (by omega) | exact (zg_v27 p2 p3).2 (by omega)
    · refine zp_const (pc := 156) hx hb (zd_X12_reckon (156, .lconst 1, 1, 0, []) (List.mem_of_getElem? (i := 70) rfl)) rfl rfl ?_
      refine zp_goto (tgt := 161) (pc := 157) hx hb (zd_X12_reckon (157, .goto 4, 3, 0, []) (List.mem_of_getElem? (i := 71) rfl)) rfl ?_
      have ez : (zp_n u.2.1) a 38 = br := hbr
      refine zp_lret (pc := 161) (n := 1) hx hb hE hQ hU5 rfl (by decide) (zd_X12_reckon (161, .lreturn, 1, 0, []) (List.mem_of_getElem? (i := 73) rfl)) (j := 0) rfl (zp_o1 (by first | assumption | exact zp_r1 (by omega) (by omega))) ?_
      rw [hps]
      refine ⟨rfl, ?_⟩
      show (((27 : Int) = 23 ∨ (27 : Int) = 24) ∧ p3 = 0 → (zp_n u.2.1) a 38 = 1 ∧ 1 = 0) ∧ (¬ (((27 : Int) = 23 ∨ (27 : Int) = 24) ∧ p3 = 0) → 1 = yd_v (27 : Int) p2 p3 ∧ (zp_n u.2.1) a 38 = if (27 : Int) = 23 ∨ (27 : Int) = 24 then 0 else zp_n u.2.1 a 38)
      rw [ez]
      refine ⟨fun h => absurd h.1 (by decide), fun _ => ⟨?_, rfl⟩⟩
      first | exact (zg_v27 p2 p3).1 (by omega) | exact (zg_v27 p2 p3).2 (by omega)
noncomputable def zK_isP9 : zk_K := (zt_mn 193, prog_14_method_19_code, 2, (Option.some Jvm.ClassFile.FieldType.boolean), 1, 12, [(2, 92, 0, 0), (0, 0, (-2147483648), 2147483647)], [(some (0, 0, 0, 1), [])], [], (1, 60, 0, 0))
noncomputable def zφ_isP9 (b3 : Nat) : (Nat → Option Nat) → (Nat → Nat → Int) → List Int → Prop := fun P G ps => G (zp_0 ps) 3 = (b3 : Int) ∧ P b3 = some 59 ∧ -2147483647 ≤ G b3 (2000 + 0) ∧ G b3 (2000 + 0) ≤ 2147483647
noncomputable def zψ_isP9 (b3 : Nat) : (Nat → Option Nat) → (Nat → Nat → Int) → List Int → (Nat → Option Nat) → (Nat → Nat → Int) → Int → Prop := fun P G ps P' G' rn => P' = P ∧ G' = G ∧ (rn = 1 ↔ 0 ≤ (ps.getD 1 0) ∧ (ps.getD 1 0) < G b3 (2000 + 0))
theorem zX_isP9 {l : Launch} {w : zk_W} (hW : zh_W w) (b3 : Nat) : zk_metX l w zt_dv zt_TB zK_isP9 (zp_A (zφ_isP9 b3)) (zp_B (zψ_isP9 b3)) ∧ zk_cok w zt_TB zK_isP9 := by
  refine zp_methX (cn := "WoundTownModel") zp_lkall hW (pl := 1603) rfl (by decide +kernel) (fun p e R s m args below meth c Q u hx hb hE hQ hU5 heff hnL hok hφ => ?_)
  have hw := hW.1
  obtain ⟨p0, p1, hps, k0, k1⟩ := zp_ps2 hok
  obtain ⟨a, rfl, hp⟩ := zp_this k0
  have hrm : zk_Kr (zk_ev (zt_types, zp_lk, zt_dv, [], [], zp_lc, zK_isP9)) = zk_Kr zK_isP9 := rfl
  rw [hps] at hφ ⊢
  have hi1 := zp_int k1
  have hφ : zp_n u.2.1 a 3 = (b3 : Int) ∧ u.1 b3 = some 59 ∧ -2147483647 ≤ zp_n u.2.1 b3 (2000 + 0) ∧ zp_n u.2.1 b3 (2000 + 0) ≤ 2147483647 := hφ
  obtain ⟨e3, q3, r1, r2⟩ := hφ
  show zp_J p l e R s m args below meth c Q w u [] 0 [(0, 2, (a : Int)), (1, 0, p1)] [] u.1 (zp_n u.2.1)
  refine zp_load (pc := 0) hx hb (zd_X12_isPerson (0, .iload_n 1, 1, 0, []) (List.mem_of_getElem? (i := 0) rfl)) rfl (j := 1) rfl ?_
  refine zp_i2l (pc := 1) hx hb (zd_X12_isPerson (1, .i2l, 1, 0, []) (List.mem_of_getElem? (i := 1) rfl)) ?_
  refine zp_const (pc := 2) hx hb (zd_X12_isPerson (2, .lconst 0, 1, 0, []) (List.mem_of_getElem? (i := 2) rfl)) rfl rfl ?_
  refine zp_load (pc := 3) hx hb (zd_X12_isPerson (3, .aload_n 0, 1, 0, []) (List.mem_of_getElem? (i := 3) rfl)) rfl (j := 0) rfl ?_
  refine zp_getf (n := (b3 : Int)) (pc := 4) hx hb hE hw (zd_X12_isPerson (4, .getfield 13, 3, 0, []) (List.mem_of_getElem? (i := 4) rfl)) (j := 21) rfl rfl rfl hp e3 ?_
  refine zp_const (pc := 7) hx hb (zd_X12_isPerson (7, .iconst 0, 1, 0, []) (List.mem_of_getElem? (i := 5) rfl)) rfl rfl ?_
  refine zp_ialdT (j := 0) (v := ((zp_n u.2.1) b3 (2000 + 0))) (pc := 8) hx hb hw (zd_X12_isPerson (8, .iaload, 1, 0, []) (List.mem_of_getElem? (i := 6) rfl)) zl_T59 rfl (zl_kd 0) q3 (by omega) (show 0 < 5580 by omega) rfl (fun hk32 => ?_)
  have hk32b := zp_int (show zk_ok u.1 (0, 0, 0, 6) ((zp_n u.2.1) b3 (2000 + 0)) from hk32)
  refine zp_i2l (pc := 9) hx hb (zd_X12_isPerson (9, .i2l, 1, 0, []) (List.mem_of_getElem? (i := 7) rfl)) ?_
  refine zp_const (pc := 10) hx hb (zd_X12_isPerson (10, .lconst 1, 1, 0, []) (List.mem_of_getElem? (i := 8) rfl)) rfl rfl ?_
  refine zp_lsubx (n := (((zp_n u.2.1) b3 (2000 + 0)) - 1)) (pc := 11) hx hb (zd_X12_isPerson (11, .lsub, 1, 0, []) (List.mem_of_getElem? (i := 9) rfl)) rfl (zp_r1 (by omega) (by omega)) ?_
  refine zp_call (pc := 12) (how := 1) (idx := 181) (mi := 186) (S := []) hx hb hE hw heff hrm (zX_in2 hW) rfl (j := 2) rfl rfl (by decide +kernel) (zd_X12_isPerson (12, .invokestatic 181, 3, 0, []) (List.mem_of_getElem? (i := 10) rfl)) [p1, 0, (((zp_n u.2.1) b3 (2000 + 0)) - 1)] rfl ⟨zp_o1 (by first | assumption | exact zp_r1 (by omega) (by omega)), zp_o1 (by first | assumption | exact zp_r1 (by omega) (by omega)), zp_o1 (by first | assumption | exact zp_r1 (by omega) (by omega)), trivial⟩ (Nat.le_of_ble_eq_true rfl) trivial (fun al hal rn9 P9 G9 hext9 hfr9 hok9 hcs9 hpsi9 => ?_)
  obtain rfl := List.mem_singleton.mp hal
  have hr9 := zp_int (hok9 _ rfl).1
  obtain ⟨hPe9, hGe9, ht9⟩ := hpsi9
  have ht9 : rn9 = 1 ↔ 0 ≤ p1 ∧ p1 ≤ (((zp_n u.2.1) b3 (2000 + 0)) - 1) := ht9
  rw [hPe9, hGe9]
  refine zp_zret (pc := 15) (n := rn9) hx hb hE hQ hU5 rfl (by decide) (zd_X12_isPerson (15, .ireturn, 1, 0, []) (List.mem_of_getElem? (i := 11) rfl)) (j := 0) rfl (zp_o0 (by omega) (by omega) (by omega) (by omega)) ?_
  rw [hps]
  refine ⟨rfl, rfl, ?_⟩
  show rn9 = 1 ↔ 0 ≤ p1 ∧ p1 < zp_n u.2.1 b3 (2000 + 0)
  omega
noncomputable def zK_isW9 : zk_K := (zt_mn 200, prog_14_method_20_code, 2, (Option.some Jvm.ClassFile.FieldType.boolean), 1, 12, [(2, 92, 0, 0), (0, 0, (-2147483648), 2147483647)], [(some (0, 0, 0, 1), [])], [], (1, 60, 0, 0))
noncomputable def zφ_isW9 (b3 : Nat) : (Nat → Option Nat) → (Nat → Nat → Int) → List Int → Prop := fun P G ps => G (zp_0 ps) 3 = (b3 : Int) ∧ P b3 = some 59 ∧ -2147483647 ≤ G b3 (2000 + 1) ∧ G b3 (2000 + 1) ≤ 2147483647
noncomputable def zψ_isW9 (b3 : Nat) : (Nat → Option Nat) → (Nat → Nat → Int) → List Int → (Nat → Option Nat) → (Nat → Nat → Int) → Int → Prop := fun P G ps P' G' rn => P' = P ∧ G' = G ∧ (rn = 1 ↔ 0 ≤ (ps.getD 1 0) ∧ (ps.getD 1 0) < G b3 (2000 + 1))
theorem zX_isW9 {l : Launch} {w : zk_W} (hW : zh_W w) (b3 : Nat) : zk_metX l w zt_dv zt_TB zK_isW9 (zp_A (zφ_isW9 b3)) (zp_B (zψ_isW9 b3)) ∧ zk_cok w zt_TB zK_isW9 := by
  refine zp_methX (cn := "WoundTownModel") zp_lkall hW (pl := 1634) rfl (by decide +kernel) (fun p e R s m args below meth c Q u hx hb hE hQ hU5 heff hnL hok hφ => ?_)
  have hw := hW.1
  obtain ⟨p0, p1, hps, k0, k1⟩ := zp_ps2 hok
  obtain ⟨a, rfl, hp⟩ := zp_this k0
  have hrm : zk_Kr (zk_ev (zt_types, zp_lk, zt_dv, [], [], zp_lc, zK_isW9)) = zk_Kr zK_isW9 := rfl
  rw [hps] at hφ ⊢
  have hi1 := zp_int k1
  have hφ : zp_n u.2.1 a 3 = (b3 : Int) ∧ u.1 b3 = some 59 ∧ -2147483647 ≤ zp_n u.2.1 b3 (2000 + 1) ∧ zp_n u.2.1 b3 (2000 + 1) ≤ 2147483647 := hφ
  obtain ⟨e3, q3, r1, r2⟩ := hφ
  show zp_J p l e R s m args below meth c Q w u [] 0 [(0, 2, (a : Int)), (1, 0, p1)] [] u.1 (zp_n u.2.1)
  refine zp_load (pc := 0) hx hb (zd_X12_isWork (0, .iload_n 1, 1, 0, []) (List.mem_of_getElem? (i := 0) rfl)) rfl (j := 1) rfl ?_
  refine zp_i2l (pc := 1) hx hb (zd_X12_isWork (1, .i2l, 1, 0, []) (List.mem_of_getElem? (i := 1) rfl)) ?_
  refine zp_const (pc := 2) hx hb (zd_X12_isWork (2, .lconst 0, 1, 0, []) (List.mem_of_getElem? (i := 2) rfl)) rfl rfl ?_
  refine zp_load (pc := 3) hx hb (zd_X12_isWork (3, .aload_n 0, 1, 0, []) (List.mem_of_getElem? (i := 3) rfl)) rfl (j := 0) rfl ?_
  refine zp_getf (n := (b3 : Int)) (pc := 4) hx hb hE hw (zd_X12_isWork (4, .getfield 13, 3, 0, []) (List.mem_of_getElem? (i := 4) rfl)) (j := 21) rfl rfl rfl hp e3 ?_
  refine zp_const (pc := 7) hx hb (zd_X12_isWork (7, .iconst 1, 1, 0, []) (List.mem_of_getElem? (i := 5) rfl)) rfl rfl ?_
  refine zp_ialdT (j := 1) (v := ((zp_n u.2.1) b3 (2000 + 1))) (pc := 8) hx hb hw (zd_X12_isWork (8, .iaload, 1, 0, []) (List.mem_of_getElem? (i := 6) rfl)) zl_T59 rfl (zl_kd 1) q3 (by omega) (show 1 < 5580 by omega) rfl (fun hk33 => ?_)
  have hk33b := zp_int (show zk_ok u.1 (0, 0, 0, 10) ((zp_n u.2.1) b3 (2000 + 1)) from hk33)
  refine zp_i2l (pc := 9) hx hb (zd_X12_isWork (9, .i2l, 1, 0, []) (List.mem_of_getElem? (i := 7) rfl)) ?_
  refine zp_const (pc := 10) hx hb (zd_X12_isWork (10, .lconst 1, 1, 0, []) (List.mem_of_getElem? (i := 8) rfl)) rfl rfl ?_
  refine zp_lsubx (n := (((zp_n u.2.1) b3 (2000 + 1)) - 1)) (pc := 11) hx hb (zd_X12_isWork (11, .lsub, 1, 0, []) (List.mem_of_getElem? (i := 9) rfl)) rfl (zp_r1 (by omega) (by omega)) ?_
  refine zp_call (pc := 12) (how := 1) (idx := 181) (mi := 186) (S := []) hx hb hE hw heff hrm (zX_in2 hW) rfl (j := 2) rfl rfl (by decide +kernel) (zd_X12_isWork (12, .invokestatic 181, 3, 0, []) (List.mem_of_getElem? (i := 10) rfl)) [p1, 0, (((zp_n u.2.1) b3 (2000 + 1)) - 1)] rfl ⟨zp_o1 (by first | assumption | exact zp_r1 (by omega) (by omega)), zp_o1 (by first | assumption | exact zp_r1 (by omega) (by omega)), zp_o1 (by first | assumption | exact zp_r1 (by omega) (by omega)), trivial⟩ (Nat.le_of_ble_eq_true rfl) trivial (fun al hal rn9 P9 G9 hext9 hfr9 hok9 hcs9 hpsi9 => ?_)
  obtain rfl := List.mem_singleton.mp hal
  have hr9 := zp_int (hok9 _ rfl).1
  obtain ⟨hPe9, hGe9, ht9⟩ := hpsi9
  have ht9 : rn9 = 1 ↔ 0 ≤ p1 ∧ p1 ≤ (((zp_n u.2.1) b3 (2000 + 1)) - 1) := ht9
  rw [hPe9, hGe9]
  refine zp_zret (pc := 15) (n := rn9) hx hb hE hQ hU5 rfl (by decide) (zd_X12_isWork (15, .ireturn, 1, 0, []) (List.mem_of_getElem? (i := 11) rfl)) (j := 0) rfl (zp_o0 (by omega) (by omega) (by omega) (by omega)) ?_
  rw [hps]
  refine ⟨rfl, rfl, ?_⟩
  show rn9 = 1 ↔ 0 ≤ p1 ∧ p1 < zp_n u.2.1 b3 (2000 + 1)
  omega
noncomputable def zK_ofP9 : zk_K := (zt_mn 195, prog_14_method_17_code, 3, (Option.some Jvm.ClassFile.FieldType.int), 1, 12, [(2, 92, 0, 0), (0, 0, 0, 5), (0, 0, 0, 2)], [(some (0, 0, (-2147483648), 2147483647), [])], [], (0, 0, 0, 0))
noncomputable def zφ_ofP9 (b3 : Nat) : (Nat → Option Nat) → (Nat → Nat → Int) → List Int → Prop := fun P G ps => G (zp_0 ps) 3 = (b3 : Int) ∧ P b3 = some 59 ∧ (∀ j, j < 5580 → -2147483648 ≤ G b3 (2000 + j) ∧ G b3 (2000 + j) ≤ 2147483647)
noncomputable def zψ_ofP9 (b3 : Nat) : (Nat → Option Nat) → (Nat → Nat → Int) → List Int → (Nat → Option Nat) → (Nat → Nat → Int) → Int → Prop := fun P G ps P' G' rn => P' = P ∧ G' = G ∧ rn = G b3 (2000 + (3 * (ps.getD 1 0).toNat + (11 + (ps.getD 2 0).toNat)))
theorem zX_ofP9 {l : Launch} {w : zk_W} (hW : zh_W w) (b3 : Nat) : zk_metX l w zt_dv zt_TB zK_ofP9 (zp_A (zφ_ofP9 b3)) (zp_B (zψ_ofP9 b3)) ∧ zk_cok w zt_TB zK_ofP9 := by
  refine zp_methX (cn := "WoundTownModel") zp_lkall hW (pl := 1612) rfl (by decide +kernel) (fun p e R s m args below meth c Q u hx hb hE hQ hU5 heff hnL hok hφ => ?_)
  have hw := hW.1
  obtain ⟨p0, p1, p2, hps, k0, k1, k2⟩ := zp_ps3 hok
  obtain ⟨a, rfl, hp⟩ := zp_this k0
  have hrm : zk_Kr (zk_ev (zt_types, zp_lk, zt_dv, [], [], zp_lc, zK_ofP9)) = zk_Kr zK_ofP9 := rfl
  rw [hps] at hφ ⊢
  have hi1 := zp_int k1
  have hi2 := zp_int k2
  have hφ : zp_n u.2.1 a 3 = (b3 : Int) ∧ u.1 b3 = some 59 ∧ (∀ j, j < 5580 → -2147483648 ≤ zp_n u.2.1 b3 (2000 + j) ∧ zp_n u.2.1 b3 (2000 + j) ≤ 2147483647) := hφ
  obtain ⟨e3, q3, hR⟩ := hφ
  obtain ⟨c1, rfl⟩ := zp_nat hi1.1
  obtain ⟨c2, rfl⟩ := zp_nat hi2.1
  show zp_J p l e R s m args below meth c Q w u [] 0 [(0, 2, (a : Int)), (1, 0, (c1 : Int)), (2, 0, (c2 : Int))] [] u.1 (zp_n u.2.1)
  refine zp_load (pc := 0) hx hb (zd_X12_ofPerson (0, .aload_n 0, 1, 0, []) (List.mem_of_getElem? (i := 0) rfl)) rfl (j := 0) rfl ?_
  refine zp_getf (n := (b3 : Int)) (pc := 1) hx hb hE hw (zd_X12_ofPerson (1, .getfield 13, 3, 0, []) (List.mem_of_getElem? (i := 1) rfl)) (j := 21) rfl rfl rfl hp e3 ?_
  refine zp_const (pc := 4) hx hb (zd_X12_ofPerson (4, .bipush 11, 2, 0, []) (List.mem_of_getElem? (i := 2) rfl)) rfl rfl ?_
  refine zp_const (pc := 6) hx hb (zd_X12_ofPerson (6, .iconst 3, 1, 0, []) (List.mem_of_getElem? (i := 3) rfl)) rfl rfl ?_
  refine zp_load (pc := 7) hx hb (zd_X12_ofPerson (7, .iload_n 1, 1, 0, []) (List.mem_of_getElem? (i := 4) rfl)) rfl (j := 1) rfl ?_
  refine zp_mul (n := (3 * (c1 : Int))) (pc := 8) hx hb (zd_X12_ofPerson (8, .imul, 1, 0, []) (List.mem_of_getElem? (i := 5) rfl)) (by omega) (zp_r0 (by omega) (by omega)) ?_
  refine zp_add (n := (3 * (c1 : Int) + 11)) (pc := 9) hx hb (zd_X12_ofPerson (9, .iadd, 1, 0, []) (List.mem_of_getElem? (i := 6) rfl)) (by omega) (zp_r0 (by omega) (by omega)) ?_
  refine zp_load (pc := 10) hx hb (zd_X12_ofPerson (10, .iload_n 2, 1, 0, []) (List.mem_of_getElem? (i := 7) rfl)) rfl (j := 2) rfl ?_
  refine zp_add (n := (3 * (c1 : Int) + (c2 : Int) + 11)) (pc := 11) hx hb (zd_X12_ofPerson (11, .iadd, 1, 0, []) (List.mem_of_getElem? (i := 8) rfl)) (by omega) (zp_r0 (by omega) (by omega)) ?_
  refine zp_ialdT (j := (3 * c1 + c2 + 11)) (v := ((zp_n u.2.1) b3 (2000 + (3 * c1 + c2 + 11)))) (pc := 12) hx hb hw (zd_X12_ofPerson (12, .iaload, 1, 0, []) (List.mem_of_getElem? (i := 9) rfl)) zl_T59 rfl (zl_kd ((3 * c1 + c2 + 11))) q3 (by omega) (show (3 * c1 + c2 + 11) < 5580 by omega) rfl (fun hk34 => ?_)
  have hRj := hR (3 * c1 + c2 + 11) (by omega)
  refine zp_iret (pc := 13) (n := ((zp_n u.2.1) b3 (2000 + (3 * c1 + c2 + 11)))) hx hb hE hQ hU5 rfl (by decide) (zd_X12_ofPerson (13, .ireturn, 1, 0, []) (List.mem_of_getElem? (i := 10) rfl)) (j := 0) rfl (zp_o0 (by omega) (by omega) (by omega) (by omega)) ?_
  rw [hps]
  refine ⟨rfl, rfl, ?_⟩
  show ((zp_n u.2.1) b3 (2000 + (3 * c1 + c2 + 11))) = zp_n u.2.1 b3 (2000 + (3 * c1 + (11 + c2)))
  congr 2
  omega
noncomputable def zK_ofW9 : zk_K := (zt_mn 196, prog_14_method_18_code, 3, (Option.some Jvm.ClassFile.FieldType.int), 1, 12, [(2, 92, 0, 0), (0, 0, 0, 9), (0, 0, 0, 4)], [(some (0, 0, (-2147483648), 2147483647), [])], [], (0, 0, 0, 0))
noncomputable def zφ_ofW9 (b3 : Nat) : (Nat → Option Nat) → (Nat → Nat → Int) → List Int → Prop := fun P G ps => G (zp_0 ps) 3 = (b3 : Int) ∧ P b3 = some 59 ∧ (∀ j, j < 5580 → -2147483648 ≤ G b3 (2000 + j) ∧ G b3 (2000 + j) ≤ 2147483647)
noncomputable def zψ_ofW9 (b3 : Nat) : (Nat → Option Nat) → (Nat → Nat → Int) → List Int → (Nat → Option Nat) → (Nat → Nat → Int) → Int → Prop := fun P G ps P' G' rn => P' = P ∧ G' = G ∧ rn = G b3 (2000 + (5 * (ps.getD 1 0).toNat + (39 + (ps.getD 2 0).toNat)))
theorem zX_ofW9 {l : Launch} {w : zk_W} (hW : zh_W w) (b3 : Nat) : zk_metX l w zt_dv zt_TB zK_ofW9 (zp_A (zφ_ofW9 b3)) (zp_B (zψ_ofW9 b3)) ∧ zk_cok w zt_TB zK_ofW9 := by
  refine zp_methX (cn := "WoundTownModel") zp_lkall hW (pl := 1616) rfl (by decide +kernel) (fun p e R s m args below meth c Q u hx hb hE hQ hU5 heff hnL hok hφ => ?_)
  have hw := hW.1
  obtain ⟨p0, p1, p2, hps, k0, k1, k2⟩ := zp_ps3 hok
  obtain ⟨a, rfl, hp⟩ := zp_this k0
  have hrm : zk_Kr (zk_ev (zt_types, zp_lk, zt_dv, [], [], zp_lc, zK_ofW9)) = zk_Kr zK_ofW9 := rfl
  rw [hps] at hφ ⊢
  have hi1 := zp_int k1
  have hi2 := zp_int k2
  have hφ : zp_n u.2.1 a 3 = (b3 : Int) ∧ u.1 b3 = some 59 ∧ (∀ j, j < 5580 → -2147483648 ≤ zp_n u.2.1 b3 (2000 + j) ∧ zp_n u.2.1 b3 (2000 + j) ≤ 2147483647) := hφ
  obtain ⟨e3, q3, hR⟩ := hφ
  obtain ⟨c1, rfl⟩ := zp_nat hi1.1
  obtain ⟨c2, rfl⟩ := zp_nat hi2.1
  show zp_J p l e R s m args below meth c Q w u [] 0 [(0, 2, (a : Int)), (1, 0, (c1 : Int)), (2, 0, (c2 : Int))] [] u.1 (zp_n u.2.1)
  refine zp_load (pc := 0) hx hb (zd_X12_ofWork (0, .aload_n 0, 1, 0, []) (List.mem_of_getElem? (i := 0) rfl)) rfl (j := 0) rfl ?_
  refine zp_getf (n := (b3 : Int)) (pc := 1) hx hb hE hw (zd_X12_ofWork (1, .getfield 13, 3, 0, []) (List.mem_of_getElem? (i := 1) rfl)) (j := 21) rfl rfl rfl hp e3 ?_
  refine zp_const (pc := 4) hx hb (zd_X12_ofWork (4, .bipush 39, 2, 0, []) (List.mem_of_getElem? (i := 2) rfl)) rfl rfl ?_
  refine zp_const (pc := 6) hx hb (zd_X12_ofWork (6, .iconst 5, 1, 0, []) (List.mem_of_getElem? (i := 3) rfl)) rfl rfl ?_
  refine zp_load (pc := 7) hx hb (zd_X12_ofWork (7, .iload_n 1, 1, 0, []) (List.mem_of_getElem? (i := 4) rfl)) rfl (j := 1) rfl ?_
  refine zp_mul (n := (5 * (c1 : Int))) (pc := 8) hx hb (zd_X12_ofWork (8, .imul, 1, 0, []) (List.mem_of_getElem? (i := 5) rfl)) (by omega) (zp_r0 (by omega) (by omega)) ?_
  refine zp_add (n := (5 * (c1 : Int) + 39)) (pc := 9) hx hb (zd_X12_ofWork (9, .iadd, 1, 0, []) (List.mem_of_getElem? (i := 6) rfl)) (by omega) (zp_r0 (by omega) (by omega)) ?_
  refine zp_load (pc := 10) hx hb (zd_X12_ofWork (10, .iload_n 2, 1, 0, []) (List.mem_of_getElem? (i := 7) rfl)) rfl (j := 2) rfl ?_
  refine zp_add (n := (5 * (c1 : Int) + (c2 : Int) + 39)) (pc := 11) hx hb (zd_X12_ofWork (11, .iadd, 1, 0, []) (List.mem_of_getElem? (i := 8) rfl)) (by omega) (zp_r0 (by omega) (by omega)) ?_
  refine zp_ialdT (j := (5 * c1 + c2 + 39)) (v := ((zp_n u.2.1) b3 (2000 + (5 * c1 + c2 + 39)))) (pc := 12) hx hb hw (zd_X12_ofWork (12, .iaload, 1, 0, []) (List.mem_of_getElem? (i := 9) rfl)) zl_T59 rfl (zl_kd ((5 * c1 + c2 + 39))) q3 (by omega) (show (5 * c1 + c2 + 39) < 5580 by omega) rfl (fun hk35 => ?_)
  have hRj := hR (5 * c1 + c2 + 39) (by omega)
  refine zp_iret (pc := 13) (n := ((zp_n u.2.1) b3 (2000 + (5 * c1 + c2 + 39)))) hx hb hE hQ hU5 rfl (by decide) (zd_X12_ofWork (13, .ireturn, 1, 0, []) (List.mem_of_getElem? (i := 10) rfl)) (j := 0) rfl (zp_o0 (by omega) (by omega) (by omega) (by omega)) ?_
  rw [hps]
  refine ⟨rfl, rfl, ?_⟩
  show ((zp_n u.2.1) b3 (2000 + (5 * c1 + c2 + 39))) = zp_n u.2.1 b3 (2000 + (5 * c1 + (39 + c2)))
  congr 2
  omega
/-- what words are worth in orders -/
noncomputable def zo_en (R Nw : Nat → Int) : Int → Int → Int := fun o a => if o ≤ 0 then a else if o < 6 then Nw o.toNat else if o = 6 then (if 0 ≤ a ∧ a < R 0 then R (3 * a.toNat + 13) else -1) else if 0 ≤ a ∧ a < R 1 then R (5 * a.toNat + 40) - R (a.toNat + 29) else -1
/-- what is asked of the row where orders are reckoned -/
noncomputable def zo_rb (R : Nat → Int) : Prop := (0 ≤ R 0 ∧ R 0 ≤ 6) ∧ (0 ≤ R 1 ∧ R 1 ≤ 10) ∧ ∀ w : Nat, (w : Int) < R 1 → (0 ≤ R (5 * w + 40) ∧ R (5 * w + 40) ≤ 600) ∧ 0 ≤ R (w + 29) ∧ R (w + 29) ≤ 600
/-- what stays while a sum of orders is reckoned -/
noncomputable def zgO (a b3 b24 b25 b36 b37 : Nat) (R Oc Oa Nw : Nat → Int) (G : Nat → Nat → Int) : Prop := G a 20 = 1 ∧ G a 3 = (b3 : Int) ∧ G a 24 = (b24 : Int) ∧ G a 25 = (b25 : Int) ∧ G a 36 = (b36 : Int) ∧ G a 37 = (b37 : Int) ∧ (∀ j, G b3 (2000 + j) = R j) ∧ (∀ j, G b24 (2000 + j) = Oc j) ∧ (∀ j, G b25 (2000 + j) = Oa j) ∧ ∀ j, G b36 (2000 + j) = Nw j
theorem zgO_a {a b3 b24 b25 b36 b37 k : Nat} {R Oc Oa Nw : Nat → Int} {v : Int} {G : Nat → Nat → Int} (h : zgO a b3 b24 b25 b36 b37 R Oc Oa Nw G) (h3 : b3 ≠ a) (h24 : b24 ≠ a) (h25 : b25 ≠ a) (h36 : b36 ≠ a) (hk : k = 38 ∨ k = 39) : zgO a b3 b24 b25 b36 b37 R Oc Oa Nw (zp_set G a k v) := by
  obtain ⟨m1, m2, m3, m4, m5, m6, m7, m8, m9, m10⟩ := h
  exact ⟨(zp_set_ne (Or.inr (by omega))).trans m1, (zp_set_ne (Or.inr (by omega))).trans m2, (zp_set_ne (Or.inr (by omega))).trans m3, (zp_set_ne (Or.inr (by omega))).trans m4, (zp_set_ne (Or.inr (by omega))).trans m5, (zp_set_ne (Or.inr (by omega))).trans m6, fun j => (zp_set_ne (Or.inl h3)).trans (m7 j), fun j => (zp_set_ne (Or.inl h24)).trans (m8 j), fun j => (zp_set_ne (Or.inl h25)).trans (m9 j), fun j => (zp_set_ne (Or.inl h36)).trans (m10 j)⟩
theorem zgO_b {a b3 b24 b25 b36 b37 k : Nat} {R Oc Oa Nw : Nat → Int} {v : Int} {G : Nat → Nat → Int} (h : zgO a b3 b24 b25 b36 b37 R Oc Oa Nw G) (ha : a ≠ b37) (h3 : b3 ≠ b37) (h24 : b24 ≠ b37) (h25 : b25 ≠ b37) (h36 : b36 ≠ b37) : zgO a b3 b24 b25 b36 b37 R Oc Oa Nw (zp_set G b37 k v) := by
  obtain ⟨m1, m2, m3, m4, m5, m6, m7, m8, m9, m10⟩ := h
  exact ⟨(zp_set_ne (Or.inl ha)).trans m1, (zp_set_ne (Or.inl ha)).trans m2, (zp_set_ne (Or.inl ha)).trans m3, (zp_set_ne (Or.inl ha)).trans m4, (zp_set_ne (Or.inl ha)).trans m5, (zp_set_ne (Or.inl ha)).trans m6, fun j => (zp_set_ne (Or.inl h3)).trans (m7 j), fun j => (zp_set_ne (Or.inl h24)).trans (m8 j), fun j => (zp_set_ne (Or.inl h25)).trans (m9 j), fun j => (zp_set_ne (Or.inl h36)).trans (m10 j)⟩
theorem zgO_f {a b3 b24 b25 b36 b37 : Nat} {R Oc Oa Nw : Nat → Int} {G G' : Nat → Nat → Int} {P : Nat → Option Nat} {eff : List (Nat × Nat × Nat)} {ps : List Int} (h : zgO a b3 b24 b25 b36 b37 R Oc Oa Nw G) (ha : P a = some 92) (h3 : P b3 = some 59) (h24 : P b24 = some 68) (h25 : P b25 = some 69) (h36 : P b36 = some 76) (hfr : zp_fr eff ps P G G') (he : (zp_nfb eff 92 20 && (zp_nfb eff 92 3 && (zp_nfb eff 92 24 && (zp_nfb eff 92 25 && (zp_nfb eff 92 36 && (zp_nfb eff 92 37 && (zp_ncb eff 59 && (zp_ncb eff 68 && (zp_ncb eff 69 && zp_ncb eff 76))))))))) = true) : zgO a b3 b24 b25 b36 b37 R Oc Oa Nw G' := by
  simp only [Bool.and_eq_true] at he
  obtain ⟨e1, e2, e3, e4, e5, e6, e7, e8, e9, e10⟩ := he
  obtain ⟨m1, m2, m3, m4, m5, m6, m7, m8, m9, m10⟩ := h
  exact ⟨(zp_nf hfr ha e1).trans m1, (zp_nf hfr ha e2).trans m2, (zp_nf hfr ha e3).trans m3, (zp_nf hfr ha e4).trans m4, (zp_nf hfr ha e5).trans m5, (zp_nf hfr ha e6).trans m6, fun j => (zp_nc hfr h3 e7 _).trans (m7 j), fun j => (zp_nc hfr h24 e8 _).trans (m8 j), fun j => (zp_nc hfr h25 e9 _).trans (m9 j), fun j => (zp_nc hfr h36 e10 _).trans (m10 j)⟩
theorem zo_enb {R Nw : Nat → Int} (hR : ∀ j, j < 5580 → -2147483648 ≤ R j ∧ R j ≤ 2147483647) (hrb : zo_rb R) (hN : ∀ j, 0 < j → j < 6 → -2147483648 ≤ Nw j ∧ Nw j ≤ 2147483647) {o a : Int} (ho : 0 ≤ o) (ha : -2147483648 ≤ a ∧ a ≤ 2147483647) : -2147483648 ≤ zo_en R Nw o a ∧ zo_en R Nw o a ≤ 2147483647 := by
  obtain ⟨⟨r0, r1⟩, ⟨r2, r3⟩, r4⟩ := hrb
  unfold zo_en
  split
  · omega
  · split
    · exact hN o.toNat (by omega) (by omega)
    · split
      · split
        · have := hR (3 * a.toNat + 13) (by omega)
          omega
        · omega
      · split
        · have := r4 a.toNat (by omega)
          omega
        · omega
noncomputable def zK_ra9 : zk_K := (zt_mn 243, prog_14_method_65_code, 7, (Option.none : Option Jvm.ClassFile.FieldType), 1, 12, [(2, 92, 0, 0), (0, 0, 0, 400), (0, 0, 0, 400)], [(none, [])], [(92, 38, 0), (92, 39, 0), (77, 1001, 0)], (2, 120, 0, 0))
noncomputable def zφ_ra9 (b3 b24 b25 b36 b37 f k : Nat) (R Oc Oa Nw : Nat → Int) (x : yD) : (Nat → Option Nat) → (Nat → Nat → Int) → List Int → Prop := fun P G ps => zgO (zp_0 ps) b3 b24 b25 b36 b37 R Oc Oa Nw G ∧ P b3 = some 59 ∧ P b24 = some 68 ∧ P b25 = some 69 ∧ P b36 = some 76 ∧ P b37 = some 77 ∧ (∀ j, j < 5580 → -2147483648 ≤ R j ∧ R j ≤ 2147483647) ∧ zo_rb R ∧ (∀ j, j < 400 → -2147483648 ≤ Oa j ∧ Oa j ≤ 2147483647) ∧ (∀ j, 0 < j → j < 6 → -2147483648 ≤ Nw j ∧ Nw j ≤ 2147483647) ∧ yE Oc Oa f (ps.getD 1 0).toNat (ps.getD 2 0).toNat k x ∧ k ≤ 400
noncomputable def zψ_ra9 (b3 b24 b25 b36 b37 f k : Nat) (R Oc Oa Nw : Nat → Int) (x : yD) : (Nat → Option Nat) → (Nat → Nat → Int) → List Int → (Nat → Option Nat) → (Nat → Nat → Int) → Int → Prop := fun P G ps P' G' rn => P' = P ∧ (∀ v, x (zo_en R Nw) = some v → (-2147483648 ≤ v ∧ v ≤ 2147483647) ∧ G' (zp_0 ps) 38 = 0 ∧ G' (zp_0 ps) 39 = v) ∧ (x (zo_en R Nw) = none → G' (zp_0 ps) 38 = 1)
set_option maxHeartbeats 4000000 in
theorem zX_ra9 {l : Launch} {w : zk_W} (hW : zh_W w) (b3 b24 b25 b36 b37 f k : Nat) (R Oc Oa Nw : Nat → Int) (x : yD) : zk_metX l w zt_dv zt_TB zK_ra9 (zp_A (zφ_ra9 b3 b24 b25 b36 b37 f k R Oc Oa Nw x)) (zp_B (zψ_ra9 b3 b24 b25 b36 b37 f k R Oc Oa Nw x)) ∧ zk_cok w zt_TB zK_ra9 := by
  refine zp_methX (cn := "WoundTownModel") zp_lkall hW (pl := 1821) rfl (by decide +kernel) (fun p e Rm s m args below meth c Q u hx hb hE hQ hU5 heff hnL hok hφ => ?_)
  have hw := hW.1
  obtain ⟨p0, p1, p2, hps, k0, k1, k2⟩ := zp_ps3 hok
  obtain ⟨a, rfl, hp⟩ := zp_this k0
  have hrm : zk_Kr (zk_ev (zt_types, zp_lk, zt_dv, [], [], zp_lc, zK_ra9)) = zk_Kr zK_ra9 := rfl
  rw [hps] at hφ ⊢
  have hi1 := zp_int k1
  have hi2 := zp_int k2
  have hφ : zgO a b3 b24 b25 b36 b37 R Oc Oa Nw (zp_n u.2.1) ∧ u.1 b3 = some 59 ∧ u.1 b24 = some 68 ∧ u.1 b25 = some 69 ∧ u.1 b36 = some 76 ∧ u.1 b37 = some 77 ∧ (∀ j, j < 5580 → -2147483648 ≤ R j ∧ R j ≤ 2147483647) ∧ zo_rb R ∧ (∀ j, j < 400 → -2147483648 ≤ Oa j ∧ Oa j ≤ 2147483647) ∧ (∀ j, 0 < j → j < 6 → -2147483648 ≤ Nw j ∧ Nw j ≤ 2147483647) ∧ yE Oc Oa f p1.toNat p2.toNat k x ∧ k ≤ 400 := hφ
  obtain ⟨hm0, q3, q24, q25, q36, q37, hR, hrb, hOa, hSt, hE0, hk400⟩ := hφ
  obtain ⟨i1, rfl⟩ := zp_nat hi1.1
  obtain ⟨i2, rfl⟩ := zp_nat hi2.1
  rw [Int.toNat_natCast, Int.toNat_natCast] at hE0
  have n3 : b3 ≠ a := zp_pne q3 hp (by decide)
  have n24 : b24 ≠ a := zp_pne q24 hp (by decide)
  have n25 : b25 ≠ a := zp_pne q25 hp (by decide)
  have n36 : b36 ≠ a := zp_pne q36 hp (by decide)
  have n37 : a ≠ b37 := zp_pne hp q37 (by decide)
  have n337 : b3 ≠ b37 := zp_pne q3 q37 (by decide)
  have n2437 : b24 ≠ b37 := zp_pne q24 q37 (by decide)
  have n2537 : b25 ≠ b37 := zp_pne q25 q37 (by decide)
  have n3637 : b36 ≠ b37 := zp_pne q36 q37 (by decide)
  have step_lf : ∀ (b d : Nat) (G : Nat → Nat → Int), b < i2 → d < 400 → zgO a b3 b24 b25 b36 b37 R Oc Oa Nw G → G a 38 = 0 → 0 ≤ Oc b → Oc b ≤ 12 → (∀ G' : Nat → Nat → Int, zgO a b3 b24 b25 b36 b37 R Oc Oa Nw G' → G' a 38 = 0 → (∀ j, j < d → G' b37 (2000 + j) = G b37 (2000 + j)) → G' b37 (2000 + d) = zo_en R Nw (Oc b) (Oa b) → zp_J p l e Rm s m args below meth c Q w u [] 10 [(3, 0, ((d + 1 : Nat) : Int)), (4, 0, ((b + 1 : Nat) : Int)), (0, 2, (a : Int)), (1, 0, (i1 : Int)), (2, 0, (i2 : Int))] [] u.1 G') → zp_J p l e Rm s m args below meth c Q w u [] 10 [(3, 0, ((d : Nat) : Int)), (4, 0, ((b : Nat) : Int)), (0, 2, (a : Int)), (1, 0, (i1 : Int)), (2, 0, (i2 : Int))] [] u.1 G := by
    intro b d G hb2 hd hm h38 o1 o2 kk
    obtain ⟨oq, hoq⟩ : ∃ oq : Nat, Oc b = (oq : Int) := zp_nat o1
    have ho3 : Oc b = (oq : Int) := hoq
    rw [hoq] at o2
    skip
    have hbr := hOa b (by omega)
    have hrb1 := hrb.1
    have hrb2 := hrb.2.1
    refine zp_load (pc := 10) hx hb (zd_X12_reckonAll (10, .iload 4, 2, 0, []) (List.mem_of_getElem? (i := 7) rfl)) rfl (j := 1) rfl ?_
    refine zp_load (pc := 12) hx hb (zd_X12_reckonAll (12, .iload_n 2, 1, 0, []) (List.mem_of_getElem? (i := 8) rfl)) rfl (j := 4) rfl ?_
    refine zp_icmp (pc := 13) (tgt := 371) hx hb (zd_X12_reckonAll (13, .if_icmp .ge 358, 3, 0, []) (List.mem_of_getElem? (i := 9) rfl)) rfl (fun (hc36 : (i2 : Int) ≤ (b : Int)) => ?_) (fun (hc36 : ¬ ((i2 : Int) ≤ (b : Int))) => ?_)
    · exfalso
      omega
    · refine zp_load (pc := 16) hx hb (zd_X12_reckonAll (16, .aload_n 0, 1, 0, []) (List.mem_of_getElem? (i := 10) rfl)) rfl (j := 2) rfl ?_
      refine zp_getf (n := 0) (pc := 17) hx hb hE hw (zd_X12_reckonAll (17, .getfield 388, 3, 0, []) (List.mem_of_getElem? (i := 11) rfl)) (j := 56) rfl rfl rfl hp h38 ?_
      refine zp_if (pc := 20) (tgt := 371) hx hb (zd_X12_reckonAll (20, .ifCond .ne 351, 3, 0, []) (List.mem_of_getElem? (i := 12) rfl)) rfl (fun (hc37 : ¬ 0 = 0) => ?_) (fun (hc37 : ¬ (¬ 0 = 0)) => ?_)
      · exfalso
        omega
      · refine zp_load (pc := 23) hx hb (zd_X12_reckonAll (23, .aload_n 0, 1, 0, []) (List.mem_of_getElem? (i := 13) rfl)) rfl (j := 2) rfl ?_
        refine zp_getf (n := 1) (pc := 24) hx hb hE hw (zd_X12_reckonAll (24, .getfield 319, 3, 0, []) (List.mem_of_getElem? (i := 14) rfl)) (j := 38) rfl rfl rfl hp hm.1 ?_
        refine zp_if (pc := 27) (tgt := 40) hx hb (zd_X12_reckonAll (27, .ifCond .eq 13, 3, 0, []) (List.mem_of_getElem? (i := 15) rfl)) rfl (fun (hc38 : 1 = 0) => ?_) (fun (hc38 : ¬ (1 = 0)) => ?_)
        · exfalso
          omega
        · refine zp_load (pc := 30) hx hb (zd_X12_reckonAll (30, .aload_n 0, 1, 0, []) (List.mem_of_getElem? (i := 16) rfl)) rfl (j := 2) rfl ?_
          refine zp_getf (n := (b24 : Int)) (pc := 31) hx hb hE hw (zd_X12_reckonAll (31, .getfield 45, 3, 0, []) (List.mem_of_getElem? (i := 17) rfl)) (j := 42) rfl rfl rfl hp hm.2.2.1 ?_
          refine zp_load (pc := 34) hx hb (zd_X12_reckonAll (34, .iload 4, 2, 0, []) (List.mem_of_getElem? (i := 18) rfl)) rfl (j := 1) rfl ?_
          refine zp_iald (j := b) (v := (oq : Int)) (pc := 36) hx hb hw (zd_X12_reckonAll (36, .iaload, 1, 0, []) (List.mem_of_getElem? (i := 19) rfl)) (show zp_ia 1 68 = some (400, 0, 0, (-2147483648), 2147483647) from rfl) q24 (by omega) (by omega) ((hm.2.2.2.2.2.2.2.1 _).trans ho3) (fun hk39 => ?_)
          have hk39b := zp_int hk39
          refine zp_goto (tgt := 57) (pc := 37) hx hb (zd_X12_reckonAll (37, .goto 20, 3, 0, []) (List.mem_of_getElem? (i := 20) rfl)) rfl ?_
          refine zp_store (L' := [(5, 0, (oq : Int)), (3, 0, (d : Int)), (4, 0, (b : Int)), (0, 2, (a : Int)), (1, 0, (i1 : Int)), (2, 0, (i2 : Int))]) (pc := 57) hx hb hnL (zd_X12_reckonAll (57, .istore 5, 2, 0, []) (List.mem_of_getElem? (i := 32) rfl)) rfl rfl rfl ?_
          refine zp_load (pc := 59) hx hb (zd_X12_reckonAll (59, .aload_n 0, 1, 0, []) (List.mem_of_getElem? (i := 33) rfl)) rfl (j := 3) rfl ?_
          refine zp_getf (n := 1) (pc := 60) hx hb hE hw (zd_X12_reckonAll (60, .getfield 319, 3, 0, []) (List.mem_of_getElem? (i := 34) rfl)) (j := 38) rfl rfl rfl hp hm.1 ?_
          refine zp_if (pc := 63) (tgt := 76) hx hb (zd_X12_reckonAll (63, .ifCond .eq 13, 3, 0, []) (List.mem_of_getElem? (i := 35) rfl)) rfl (fun (hc40 : 1 = 0) => ?_) (fun (hc40 : ¬ (1 = 0)) => ?_)
          · exfalso
            omega
          · refine zp_load (pc := 66) hx hb (zd_X12_reckonAll (66, .aload_n 0, 1, 0, []) (List.mem_of_getElem? (i := 36) rfl)) rfl (j := 3) rfl ?_
            refine zp_getf (n := (b25 : Int)) (pc := 67) hx hb hE hw (zd_X12_reckonAll (67, .getfield 48, 3, 0, []) (List.mem_of_getElem? (i := 37) rfl)) (j := 43) rfl rfl rfl hp hm.2.2.2.1 ?_
            refine zp_load (pc := 70) hx hb (zd_X12_reckonAll (70, .iload 4, 2, 0, []) (List.mem_of_getElem? (i := 38) rfl)) rfl (j := 2) rfl ?_
            refine zp_iald (j := b) (v := (Oa b)) (pc := 72) hx hb hw (zd_X12_reckonAll (72, .iaload, 1, 0, []) (List.mem_of_getElem? (i := 39) rfl)) (show zp_ia 1 69 = some (400, 0, 0, (-2147483648), 2147483647) from rfl) q25 (by omega) (by omega) (hm.2.2.2.2.2.2.2.2.1 _) (fun hk41 => ?_)
            have hk41b := zp_int hk41
            refine zp_goto (tgt := 95) (pc := 73) hx hb (zd_X12_reckonAll (73, .goto 22, 3, 0, []) (List.mem_of_getElem? (i := 40) rfl)) rfl ?_
            refine zp_store (L' := [(6, 0, (Oa b)), (5, 0, (oq : Int)), (3, 0, (d : Int)), (4, 0, (b : Int)), (0, 2, (a : Int)), (1, 0, (i1 : Int)), (2, 0, (i2 : Int))]) (pc := 95) hx hb hnL (zd_X12_reckonAll (95, .istore 6, 2, 0, []) (List.mem_of_getElem? (i := 54) rfl)) rfl rfl rfl ?_
            refine zp_iinc (L' := [(4, 0, ((b : Int) + 1)), (6, 0, (Oa b)), (5, 0, (oq : Int)), (3, 0, (d : Int)), (0, 2, (a : Int)), (1, 0, (i1 : Int)), (2, 0, (i2 : Int))]) (n := ((b : Int) + 1)) (pc := 97) hx hb hnL (zd_X12_reckonAll (97, .iinc 4 1, 3, 0, []) (List.mem_of_getElem? (i := 55) rfl)) (j := 3) rfl (by omega) (zp_r0 (by omega) (by omega)) rfl rfl ?_
            refine zp_load (pc := 100) hx hb (zd_X12_reckonAll (100, .iload 5, 2, 0, []) (List.mem_of_getElem? (i := 56) rfl)) rfl (j := 2) rfl ?_
            refine zp_const (pc := 102) hx hb (zd_X12_reckonAll (102, .bipush 20, 2, 0, []) (List.mem_of_getElem? (i := 57) rfl)) rfl rfl ?_
            refine zp_icmp (pc := 104) (tgt := 229) hx hb (zd_X12_reckonAll (104, .if_icmp .ge 125, 3, 0, []) (List.mem_of_getElem? (i := 58) rfl)) rfl (fun (hc42 : 20 ≤ (oq : Int)) => ?_) (fun (hc42 : ¬ (20 ≤ (oq : Int))) => ?_)
            · exfalso
              omega
            · refine zp_load (pc := 107) hx hb (zd_X12_reckonAll (107, .aload_n 0, 1, 0, []) (List.mem_of_getElem? (i := 59) rfl)) rfl (j := 4) rfl ?_
              refine zp_getf (n := (b37 : Int)) (pc := 108) hx hb hE hw (zd_X12_reckonAll (108, .getfield 107, 3, 0, []) (List.mem_of_getElem? (i := 60) rfl)) (j := 55) rfl rfl rfl hp hm.2.2.2.2.2.1 ?_
              refine zp_load (pc := 111) hx hb (zd_X12_reckonAll (111, .iload_n 3, 1, 0, []) (List.mem_of_getElem? (i := 61) rfl)) rfl (j := 3) rfl ?_
              refine zp_load (pc := 112) hx hb (zd_X12_reckonAll (112, .iload 5, 2, 0, []) (List.mem_of_getElem? (i := 62) rfl)) rfl (j := 2) rfl ?_
              refine zp_if (pc := 114) (tgt := 123) hx hb (zd_X12_reckonAll (114, .ifCond .ne 9, 3, 0, []) (List.mem_of_getElem? (i := 63) rfl)) rfl (fun (hc43 : ¬ (oq : Int) = 0) => ?_) (fun (hc43 : ¬ (¬ (oq : Int) = 0)) => ?_)
              · refine zp_load (pc := 123) hx hb (zd_X12_reckonAll (123, .aload_n 0, 1, 0, []) (List.mem_of_getElem? (i := 67) rfl)) rfl (j := 4) rfl ?_
                refine zp_getf (n := 1) (pc := 124) hx hb hE hw (zd_X12_reckonAll (124, .getfield 319, 3, 0, []) (List.mem_of_getElem? (i := 68) rfl)) (j := 38) rfl rfl rfl hp hm.1 ?_
                refine zp_if (pc := 127) (tgt := 140) hx hb (zd_X12_reckonAll (127, .ifCond .ne 13, 3, 0, []) (List.mem_of_getElem? (i := 69) rfl)) rfl (fun (hc44 : ¬ 1 = 0) => ?_) (fun (hc44 : ¬ (¬ 1 = 0)) => ?_)
                · refine zp_load (pc := 140) hx hb (zd_X12_reckonAll (140, .iload 5, 2, 0, []) (List.mem_of_getElem? (i := 75) rfl)) rfl (j := 2) rfl ?_
                  refine zp_const (pc := 142) hx hb (zd_X12_reckonAll (142, .bipush 6, 2, 0, []) (List.mem_of_getElem? (i := 76) rfl)) rfl rfl ?_
                  refine zp_icmp (pc := 144) (tgt := 157) hx hb (zd_X12_reckonAll (144, .if_icmp .ge 13, 3, 0, []) (List.mem_of_getElem? (i := 77) rfl)) rfl (fun (hc45 : 6 ≤ (oq : Int)) => ?_) (fun (hc45 : ¬ (6 ≤ (oq : Int))) => ?_)
                  · refine zp_load (pc := 157) hx hb (zd_X12_reckonAll (157, .iload 5, 2, 0, []) (List.mem_of_getElem? (i := 83) rfl)) rfl (j := 2) rfl ?_
                    refine zp_const (pc := 159) hx hb (zd_X12_reckonAll (159, .bipush 6, 2, 0, []) (List.mem_of_getElem? (i := 84) rfl)) rfl rfl ?_
                    refine zp_icmp (pc := 161) (tgt := 188) hx hb (zd_X12_reckonAll (161, .if_icmp .ne 27, 3, 0, []) (List.mem_of_getElem? (i := 85) rfl)) rfl (fun (hc46 : ¬ (oq : Int) = 6) => ?_) (fun (hc46 : ¬ (¬ (oq : Int) = 6)) => ?_)
                    · refine zp_load (pc := 188) hx hb (zd_X12_reckonAll (188, .aload_n 0, 1, 0, []) (List.mem_of_getElem? (i := 98) rfl)) rfl (j := 4) rfl ?_
                      refine zp_load (pc := 189) hx hb (zd_X12_reckonAll (189, .iload 6, 2, 0, []) (List.mem_of_getElem? (i := 99) rfl)) rfl (j := 1) rfl ?_
                      refine zp_call (pc := 191) (how := 0) (idx := 217) (mi := 200) (S := [(0, (d : Int)), (2, (b37 : Int))]) hx hb hE hw heff hrm (zX_isW9 hW b3) rfl (j := 10) rfl rfl (by decide +kernel) (zd_X12_reckonAll (191, .invokevirtual 217, 3, 0, []) (List.mem_of_getElem? (i := 100) rfl)) [(a : Int), (Oa b)] rfl ⟨zp_o2 hp, zp_o0 (by omega) (by omega) (by omega) (by omega), trivial⟩ (Nat.le_of_ble_eq_true rfl) ⟨hm.2.1, q3, (by rw [hm.2.2.2.2.2.2.1]; omega), (by rw [hm.2.2.2.2.2.2.1]; omega)⟩ (fun al hal rnq Pq Gq hextq hfrq hokq hcsq hpsiq => ?_)
                      obtain rfl := List.mem_singleton.mp hal
                      have hrq := zp_int (hokq _ rfl).1
                      obtain ⟨hPeq, hGeq, htq⟩ := hpsiq
                      have htq : rnq = 1 ↔ 0 ≤ (Oa b) ∧ (Oa b) < G b3 (2000 + 1) := htq
                      rw [hm.2.2.2.2.2.2.1] at htq
                      rw [hPeq, hGeq]
                      clear hextq hfrq hcsq hokq hPeq hGeq
                      refine zp_if (pc := 194) (tgt := 219) hx hb (zd_X12_reckonAll (194, .ifCond .eq 25, 3, 0, []) (List.mem_of_getElem? (i := 101) rfl)) rfl (fun (hc47 : rnq = 0) => ?_) (fun (hc47 : ¬ (rnq = 0)) => ?_)
                      · refine zp_ldc2 (pc := 219) hx hb hE (zd_X12_reckonAll (219, .ldc2_w 267, 3, 0, []) (List.mem_of_getElem? (i := 115) rfl)) (j := 92) rfl ?_
                        refine zp_last (j := d) (pc := 222) hx hb hw heff (zd_X12_reckonAll (222, .lastore, 1, 0, []) (List.mem_of_getElem? (i := 116) rfl)) (show zp_ia 2 77 = some (400, 1, 0, (-9223372036854775808), 9223372036854775807) from rfl) q37 (by omega) (by omega) rfl ?_
                        refine zp_iinc (L' := [(3, 0, ((d : Int) + 1)), (4, 0, ((b : Int) + 1)), (6, 0, (Oa b)), (5, 0, (oq : Int)), (0, 2, (a : Int)), (1, 0, (i1 : Int)), (2, 0, (i2 : Int))]) (n := ((d : Int) + 1)) (pc := 223) hx hb hnL (zd_X12_reckonAll (223, .iinc 3 1, 3, 0, []) (List.mem_of_getElem? (i := 117) rfl)) (j := 3) rfl (by omega) (zp_r0 (by omega) (by omega)) rfl rfl ?_
                        refine zp_goto (tgt := 368) (pc := 226) hx hb (zd_X12_reckonAll (226, .goto 142, 3, 0, []) (List.mem_of_getElem? (i := 118) rfl)) rfl ?_
                        refine zp_goto (tgt := 10) (pc := 368) hx hb (zd_X12_reckonAll (368, .goto (-358), 3, 0, []) (List.mem_of_getElem? (i := 197) rfl)) rfl ?_
                        refine zp_drop (L' := [(3, 0, ((d : Int) + 1)), (4, 0, ((b : Int) + 1)), (0, 2, (a : Int)), (1, 0, (i1 : Int)), (2, 0, (i2 : Int))]) (by simp) ?_
                        refine kk _ (zgO_b hm n37 n337 n2437 n2537 n3637) ((zp_set_ne (Or.inl n37)).trans h38) (fun j hj => zp_set_ne (Or.inr (by omega))) (zp_set_self.trans ?_)
                        rw [hoq]
                        unfold zo_en
                        rw [if_neg (by omega)]
                        rw [if_neg (by omega)]
                        rw [if_neg (by omega)]
                        rw [if_neg (fun z => absurd (htq.mpr z) (by omega))]
                      · refine zp_load (pc := 197) hx hb (zd_X12_reckonAll (197, .aload_n 0, 1, 0, []) (List.mem_of_getElem? (i := 102) rfl)) rfl (j := 4) rfl ?_
                        refine zp_load (pc := 198) hx hb (zd_X12_reckonAll (198, .iload 6, 2, 0, []) (List.mem_of_getElem? (i := 103) rfl)) rfl (j := 1) rfl ?_
                        refine zp_const (pc := 200) hx hb (zd_X12_reckonAll (200, .iconst 1, 1, 0, []) (List.mem_of_getElem? (i := 104) rfl)) rfl rfl ?_
                        have hq9 := htq.mp (by omega)
                        refine zp_call (pc := 201) (how := 0) (idx := 188) (mi := 196) (S := [(0, (d : Int)), (2, (b37 : Int))]) hx hb hE hw heff hrm (zX_ofW9 hW b3) rfl (j := 7) rfl rfl (by decide +kernel) (zd_X12_reckonAll (201, .invokevirtual 188, 3, 0, []) (List.mem_of_getElem? (i := 105) rfl)) [(a : Int), (Oa b), 1] rfl ⟨zp_o2 hp, zp_o0 (by omega) (by omega) (by omega) (by omega), zp_o0 (by decide) (by decide) (by decide) (by decide), trivial⟩ (Nat.le_of_ble_eq_true rfl) ⟨hm.2.1, q3, fun j hj => by rw [hm.2.2.2.2.2.2.1]; exact hR j hj⟩ (fun al hal rnv Pv Gv hextv hfrv hokv hcsv hpsiv => ?_)
                        obtain rfl := List.mem_singleton.mp hal
                        obtain ⟨hPev, hGev, htv⟩ := hpsiv
                        have htv : rnv = G b3 (2000 + (5 * (Oa b).toNat + (39 + 1))) := htv
                        rw [hm.2.2.2.2.2.2.1] at htv
                        rw [hPev, hGev]
                        clear hextv hfrv hcsv hPev hGev
                        have hrv := zp_int (hokv _ rfl).1
                        obtain ⟨n9, hn9⟩ : ∃ n9 : Nat, (Oa b) = (n9 : Int) := zp_nat (by omega)
                        have hrw9 := hrb.2.2 n9 (by omega)
                        rw [hn9, Int.toNat_natCast] at htv
                        have htv : rnv = R (5 * n9 + 40) := htv
                        have hd9 : G b3 (2000 + ((29 + (Oa b))).toNat) = R (n9 + 29) := (hm.2.2.2.2.2.2.1 _).trans (congrArg R (by omega))
                        refine zp_load (pc := 204) hx hb (zd_X12_reckonAll (204, .aload_n 0, 1, 0, []) (List.mem_of_getElem? (i := 106) rfl)) rfl (j := 4) rfl ?_
                        refine zp_getf (n := (b3 : Int)) (pc := 205) hx hb hE hw (zd_X12_reckonAll (205, .getfield 13, 3, 0, []) (List.mem_of_getElem? (i := 107) rfl)) (j := 21) rfl rfl rfl hp hm.2.1 ?_
                        refine zp_const (pc := 208) hx hb (zd_X12_reckonAll (208, .bipush 29, 2, 0, []) (List.mem_of_getElem? (i := 108) rfl)) rfl rfl ?_
                        refine zp_load (pc := 210) hx hb (zd_X12_reckonAll (210, .iload 6, 2, 0, []) (List.mem_of_getElem? (i := 109) rfl)) rfl (j := 1) rfl ?_
                        refine zp_add (n := (29 + (Oa b))) (pc := 212) hx hb (zd_X12_reckonAll (212, .iadd, 1, 0, []) (List.mem_of_getElem? (i := 110) rfl)) (by omega) (zp_r0 (by omega) (by omega)) ?_
                        refine zp_ialdT (j := ((29 + (Oa b))).toNat) (v := (R (n9 + 29))) (pc := 213) hx hb hw (zd_X12_reckonAll (213, .iaload, 1, 0, []) (List.mem_of_getElem? (i := 111) rfl)) zl_T59 rfl (zl_kd (((29 + (Oa b))).toNat)) q3 (by omega) (show ((29 + (Oa b))).toNat < 5580 by omega) hd9 (fun hk48 => ?_)
                        refine zp_sub (n := (rnv - (R (n9 + 29)))) (pc := 214) hx hb (zd_X12_reckonAll (214, .isub, 1, 0, []) (List.mem_of_getElem? (i := 112) rfl)) (by omega) (zp_r0 (by omega) (by omega)) ?_
                        refine zp_i2l (pc := 215) hx hb (zd_X12_reckonAll (215, .i2l, 1, 0, []) (List.mem_of_getElem? (i := 113) rfl)) ?_
                        refine zp_goto (tgt := 222) (pc := 216) hx hb (zd_X12_reckonAll (216, .goto 6, 3, 0, []) (List.mem_of_getElem? (i := 114) rfl)) rfl ?_
                        refine zp_last (j := d) (pc := 222) hx hb hw heff (zd_X12_reckonAll (222, .lastore, 1, 0, []) (List.mem_of_getElem? (i := 116) rfl)) (show zp_ia 2 77 = some (400, 1, 0, (-9223372036854775808), 9223372036854775807) from rfl) q37 (by omega) (by omega) rfl ?_
                        refine zp_iinc (L' := [(3, 0, ((d : Int) + 1)), (4, 0, ((b : Int) + 1)), (6, 0, (Oa b)), (5, 0, (oq : Int)), (0, 2, (a : Int)), (1, 0, (i1 : Int)), (2, 0, (i2 : Int))]) (n := ((d : Int) + 1)) (pc := 223) hx hb hnL (zd_X12_reckonAll (223, .iinc 3 1, 3, 0, []) (List.mem_of_getElem? (i := 117) rfl)) (j := 3) rfl (by omega) (zp_r0 (by omega) (by omega)) rfl rfl ?_
                        refine zp_goto (tgt := 368) (pc := 226) hx hb (zd_X12_reckonAll (226, .goto 142, 3, 0, []) (List.mem_of_getElem? (i := 118) rfl)) rfl ?_
                        refine zp_goto (tgt := 10) (pc := 368) hx hb (zd_X12_reckonAll (368, .goto (-358), 3, 0, []) (List.mem_of_getElem? (i := 197) rfl)) rfl ?_
                        refine zp_drop (L' := [(3, 0, ((d : Int) + 1)), (4, 0, ((b : Int) + 1)), (0, 2, (a : Int)), (1, 0, (i1 : Int)), (2, 0, (i2 : Int))]) (by simp) ?_
                        refine kk _ (zgO_b hm n37 n337 n2437 n2537 n3637) ((zp_set_ne (Or.inl n37)).trans h38) (fun j hj => zp_set_ne (Or.inr (by omega))) (zp_set_self.trans ?_)
                        rw [hoq]
                        unfold zo_en
                        rw [if_neg (by omega)]
                        rw [if_neg (by omega)]
                        rw [if_neg (by omega)]
                        rw [if_pos (htq.mp (by omega))]
                        rw [hn9, Int.toNat_natCast]; omega
                    · refine zp_load (pc := 164) hx hb (zd_X12_reckonAll (164, .aload_n 0, 1, 0, []) (List.mem_of_getElem? (i := 86) rfl)) rfl (j := 4) rfl ?_
                      refine zp_load (pc := 165) hx hb (zd_X12_reckonAll (165, .iload 6, 2, 0, []) (List.mem_of_getElem? (i := 87) rfl)) rfl (j := 1) rfl ?_
                      refine zp_call (pc := 167) (how := 0) (idx := 201) (mi := 193) (S := [(0, (d : Int)), (2, (b37 : Int))]) hx hb hE hw heff hrm (zX_isP9 hW b3) rfl (j := 5) rfl rfl (by decide +kernel) (zd_X12_reckonAll (167, .invokevirtual 201, 3, 0, []) (List.mem_of_getElem? (i := 88) rfl)) [(a : Int), (Oa b)] rfl ⟨zp_o2 hp, zp_o0 (by omega) (by omega) (by omega) (by omega), trivial⟩ (Nat.le_of_ble_eq_true rfl) ⟨hm.2.1, q3, (by rw [hm.2.2.2.2.2.2.1]; omega), (by rw [hm.2.2.2.2.2.2.1]; omega)⟩ (fun al hal rnq Pq Gq hextq hfrq hokq hcsq hpsiq => ?_)
                      obtain rfl := List.mem_singleton.mp hal
                      have hrq := zp_int (hokq _ rfl).1
                      obtain ⟨hPeq, hGeq, htq⟩ := hpsiq
                      have htq : rnq = 1 ↔ 0 ≤ (Oa b) ∧ (Oa b) < G b3 (2000 + 0) := htq
                      rw [hm.2.2.2.2.2.2.1] at htq
                      rw [hPeq, hGeq]
                      clear hextq hfrq hcsq hokq hPeq hGeq
                      refine zp_if (pc := 170) (tgt := 183) hx hb (zd_X12_reckonAll (170, .ifCond .eq 13, 3, 0, []) (List.mem_of_getElem? (i := 89) rfl)) rfl (fun (hc49 : rnq = 0) => ?_) (fun (hc49 : ¬ (rnq = 0)) => ?_)
                      · refine zp_const (pc := 183) hx hb (zd_X12_reckonAll (183, .iconst (-1), 1, 0, []) (List.mem_of_getElem? (i := 95) rfl)) rfl rfl ?_
                        refine zp_i2l (pc := 184) hx hb (zd_X12_reckonAll (184, .i2l, 1, 0, []) (List.mem_of_getElem? (i := 96) rfl)) ?_
                        refine zp_goto (tgt := 222) (pc := 185) hx hb (zd_X12_reckonAll (185, .goto 37, 3, 0, []) (List.mem_of_getElem? (i := 97) rfl)) rfl ?_
                        refine zp_last (j := d) (pc := 222) hx hb hw heff (zd_X12_reckonAll (222, .lastore, 1, 0, []) (List.mem_of_getElem? (i := 116) rfl)) (show zp_ia 2 77 = some (400, 1, 0, (-9223372036854775808), 9223372036854775807) from rfl) q37 (by omega) (by omega) rfl ?_
                        refine zp_iinc (L' := [(3, 0, ((d : Int) + 1)), (4, 0, ((b : Int) + 1)), (6, 0, (Oa b)), (5, 0, (oq : Int)), (0, 2, (a : Int)), (1, 0, (i1 : Int)), (2, 0, (i2 : Int))]) (n := ((d : Int) + 1)) (pc := 223) hx hb hnL (zd_X12_reckonAll (223, .iinc 3 1, 3, 0, []) (List.mem_of_getElem? (i := 117) rfl)) (j := 3) rfl (by omega) (zp_r0 (by omega) (by omega)) rfl rfl ?_
                        refine zp_goto (tgt := 368) (pc := 226) hx hb (zd_X12_reckonAll (226, .goto 142, 3, 0, []) (List.mem_of_getElem? (i := 118) rfl)) rfl ?_
                        refine zp_goto (tgt := 10) (pc := 368) hx hb (zd_X12_reckonAll (368, .goto (-358), 3, 0, []) (List.mem_of_getElem? (i := 197) rfl)) rfl ?_
                        refine zp_drop (L' := [(3, 0, ((d : Int) + 1)), (4, 0, ((b : Int) + 1)), (0, 2, (a : Int)), (1, 0, (i1 : Int)), (2, 0, (i2 : Int))]) (by simp) ?_
                        refine kk _ (zgO_b hm n37 n337 n2437 n2537 n3637) ((zp_set_ne (Or.inl n37)).trans h38) (fun j hj => zp_set_ne (Or.inr (by omega))) (zp_set_self.trans ?_)
                        rw [hoq]
                        unfold zo_en
                        rw [if_neg (by omega)]
                        rw [if_neg (by omega)]
                        rw [if_pos (by omega)]
                        rw [if_neg (fun z => absurd (htq.mpr z) (by omega))]
                      · refine zp_load (pc := 173) hx hb (zd_X12_reckonAll (173, .aload_n 0, 1, 0, []) (List.mem_of_getElem? (i := 90) rfl)) rfl (j := 4) rfl ?_
                        refine zp_load (pc := 174) hx hb (zd_X12_reckonAll (174, .iload 6, 2, 0, []) (List.mem_of_getElem? (i := 91) rfl)) rfl (j := 1) rfl ?_
                        refine zp_const (pc := 176) hx hb (zd_X12_reckonAll (176, .iconst 2, 1, 0, []) (List.mem_of_getElem? (i := 92) rfl)) rfl rfl ?_
                        have hq9 := htq.mp (by omega)
                        refine zp_call (pc := 177) (how := 0) (idx := 207) (mi := 195) (S := [(0, (d : Int)), (2, (b37 : Int))]) hx hb hE hw heff hrm (zX_ofP9 hW b3) rfl (j := 6) rfl rfl (by decide +kernel) (zd_X12_reckonAll (177, .invokevirtual 207, 3, 0, []) (List.mem_of_getElem? (i := 93) rfl)) [(a : Int), (Oa b), 2] rfl ⟨zp_o2 hp, zp_o0 (by omega) (by omega) (by omega) (by omega), zp_o0 (by decide) (by decide) (by decide) (by decide), trivial⟩ (Nat.le_of_ble_eq_true rfl) ⟨hm.2.1, q3, fun j hj => by rw [hm.2.2.2.2.2.2.1]; exact hR j hj⟩ (fun al hal rnv Pv Gv hextv hfrv hokv hcsv hpsiv => ?_)
                        obtain rfl := List.mem_singleton.mp hal
                        obtain ⟨hPev, hGev, htv⟩ := hpsiv
                        have htv : rnv = G b3 (2000 + (3 * (Oa b).toNat + (11 + 2))) := htv
                        rw [hm.2.2.2.2.2.2.1] at htv
                        rw [hPev, hGev]
                        clear hextv hfrv hcsv hPev hGev
                        have hrv := zp_int (hokv _ rfl).1
                        refine zp_goto (tgt := 184) (pc := 180) hx hb (zd_X12_reckonAll (180, .goto 4, 3, 0, []) (List.mem_of_getElem? (i := 94) rfl)) rfl ?_
                        refine zp_i2l (pc := 184) hx hb (zd_X12_reckonAll (184, .i2l, 1, 0, []) (List.mem_of_getElem? (i := 96) rfl)) ?_
                        refine zp_goto (tgt := 222) (pc := 185) hx hb (zd_X12_reckonAll (185, .goto 37, 3, 0, []) (List.mem_of_getElem? (i := 97) rfl)) rfl ?_
                        refine zp_last (j := d) (pc := 222) hx hb hw heff (zd_X12_reckonAll (222, .lastore, 1, 0, []) (List.mem_of_getElem? (i := 116) rfl)) (show zp_ia 2 77 = some (400, 1, 0, (-9223372036854775808), 9223372036854775807) from rfl) q37 (by omega) (by omega) rfl ?_
                        refine zp_iinc (L' := [(3, 0, ((d : Int) + 1)), (4, 0, ((b : Int) + 1)), (6, 0, (Oa b)), (5, 0, (oq : Int)), (0, 2, (a : Int)), (1, 0, (i1 : Int)), (2, 0, (i2 : Int))]) (n := ((d : Int) + 1)) (pc := 223) hx hb hnL (zd_X12_reckonAll (223, .iinc 3 1, 3, 0, []) (List.mem_of_getElem? (i := 117) rfl)) (j := 3) rfl (by omega) (zp_r0 (by omega) (by omega)) rfl rfl ?_
                        refine zp_goto (tgt := 368) (pc := 226) hx hb (zd_X12_reckonAll (226, .goto 142, 3, 0, []) (List.mem_of_getElem? (i := 118) rfl)) rfl ?_
                        refine zp_goto (tgt := 10) (pc := 368) hx hb (zd_X12_reckonAll (368, .goto (-358), 3, 0, []) (List.mem_of_getElem? (i := 197) rfl)) rfl ?_
                        refine zp_drop (L' := [(3, 0, ((d : Int) + 1)), (4, 0, ((b : Int) + 1)), (0, 2, (a : Int)), (1, 0, (i1 : Int)), (2, 0, (i2 : Int))]) (by simp) ?_
                        refine kk _ (zgO_b hm n37 n337 n2437 n2537 n3637) ((zp_set_ne (Or.inl n37)).trans h38) (fun j hj => zp_set_ne (Or.inr (by omega))) (zp_set_self.trans ?_)
                        rw [hoq]
                        unfold zo_en
                        rw [if_neg (by omega)]
                        rw [if_neg (by omega)]
                        rw [if_pos (by omega)]
                        rw [if_pos (htq.mp (by omega))]
                        exact htv
                  · refine zp_load (pc := 147) hx hb (zd_X12_reckonAll (147, .aload_n 0, 1, 0, []) (List.mem_of_getElem? (i := 78) rfl)) rfl (j := 4) rfl ?_
                    refine zp_getf (n := (b36 : Int)) (pc := 148) hx hb hE hw (zd_X12_reckonAll (148, .getfield 104, 3, 0, []) (List.mem_of_getElem? (i := 79) rfl)) (j := 54) rfl rfl rfl hp hm.2.2.2.2.1 ?_
                    refine zp_load (pc := 151) hx hb (zd_X12_reckonAll (151, .iload 5, 2, 0, []) (List.mem_of_getElem? (i := 80) rfl)) rfl (j := 2) rfl ?_
                    refine zp_lald (j := oq) (v := (Nw oq)) (pc := 153) hx hb hw (zd_X12_reckonAll (153, .laload, 1, 0, []) (List.mem_of_getElem? (i := 81) rfl)) (show zp_ia 2 76 = some (13, 1, 0, (-9223372036854775808), 9223372036854775807) from rfl) q36 (by omega) (by omega) (hm.2.2.2.2.2.2.2.2.2 _) ?_
                    refine zp_goto (tgt := 222) (pc := 154) hx hb (zd_X12_reckonAll (154, .goto 68, 3, 0, []) (List.mem_of_getElem? (i := 82) rfl)) rfl ?_
                    refine zp_last (j := d) (pc := 222) hx hb hw heff (zd_X12_reckonAll (222, .lastore, 1, 0, []) (List.mem_of_getElem? (i := 116) rfl)) (show zp_ia 2 77 = some (400, 1, 0, (-9223372036854775808), 9223372036854775807) from rfl) q37 (by omega) (by omega) rfl ?_
                    refine zp_iinc (L' := [(3, 0, ((d : Int) + 1)), (4, 0, ((b : Int) + 1)), (6, 0, (Oa b)), (5, 0, (oq : Int)), (0, 2, (a : Int)), (1, 0, (i1 : Int)), (2, 0, (i2 : Int))]) (n := ((d : Int) + 1)) (pc := 223) hx hb hnL (zd_X12_reckonAll (223, .iinc 3 1, 3, 0, []) (List.mem_of_getElem? (i := 117) rfl)) (j := 3) rfl (by omega) (zp_r0 (by omega) (by omega)) rfl rfl ?_
                    refine zp_goto (tgt := 368) (pc := 226) hx hb (zd_X12_reckonAll (226, .goto 142, 3, 0, []) (List.mem_of_getElem? (i := 118) rfl)) rfl ?_
                    refine zp_goto (tgt := 10) (pc := 368) hx hb (zd_X12_reckonAll (368, .goto (-358), 3, 0, []) (List.mem_of_getElem? (i := 197) rfl)) rfl ?_
                    refine zp_drop (L' := [(3, 0, ((d : Int) + 1)), (4, 0, ((b : Int) + 1)), (0, 2, (a : Int)), (1, 0, (i1 : Int)), (2, 0, (i2 : Int))]) (by simp) ?_
                    refine kk _ (zgO_b hm n37 n337 n2437 n2537 n3637) ((zp_set_ne (Or.inl n37)).trans h38) (fun j hj => zp_set_ne (Or.inr (by omega))) (zp_set_self.trans ?_)
                    rw [hoq]
                    unfold zo_en
                    rw [if_neg (by omega)]
                    rw [if_pos (by omega), Int.toNat_natCast]
                    try rfl
                · exfalso
                  omega
              · refine zp_load (pc := 117) hx hb (zd_X12_reckonAll (117, .iload 6, 2, 0, []) (List.mem_of_getElem? (i := 64) rfl)) rfl (j := 1) rfl ?_
                refine zp_i2l (pc := 119) hx hb (zd_X12_reckonAll (119, .i2l, 1, 0, []) (List.mem_of_getElem? (i := 65) rfl)) ?_
                refine zp_goto (tgt := 222) (pc := 120) hx hb (zd_X12_reckonAll (120, .goto 102, 3, 0, []) (List.mem_of_getElem? (i := 66) rfl)) rfl ?_
                refine zp_last (j := d) (pc := 222) hx hb hw heff (zd_X12_reckonAll (222, .lastore, 1, 0, []) (List.mem_of_getElem? (i := 116) rfl)) (show zp_ia 2 77 = some (400, 1, 0, (-9223372036854775808), 9223372036854775807) from rfl) q37 (by omega) (by omega) rfl ?_
                refine zp_iinc (L' := [(3, 0, ((d : Int) + 1)), (4, 0, ((b : Int) + 1)), (6, 0, (Oa b)), (5, 0, (oq : Int)), (0, 2, (a : Int)), (1, 0, (i1 : Int)), (2, 0, (i2 : Int))]) (n := ((d : Int) + 1)) (pc := 223) hx hb hnL (zd_X12_reckonAll (223, .iinc 3 1, 3, 0, []) (List.mem_of_getElem? (i := 117) rfl)) (j := 3) rfl (by omega) (zp_r0 (by omega) (by omega)) rfl rfl ?_
                refine zp_goto (tgt := 368) (pc := 226) hx hb (zd_X12_reckonAll (226, .goto 142, 3, 0, []) (List.mem_of_getElem? (i := 118) rfl)) rfl ?_
                refine zp_goto (tgt := 10) (pc := 368) hx hb (zd_X12_reckonAll (368, .goto (-358), 3, 0, []) (List.mem_of_getElem? (i := 197) rfl)) rfl ?_
                refine zp_drop (L' := [(3, 0, ((d : Int) + 1)), (4, 0, ((b : Int) + 1)), (0, 2, (a : Int)), (1, 0, (i1 : Int)), (2, 0, (i2 : Int))]) (by simp) ?_
                refine kk _ (zgO_b hm n37 n337 n2437 n2537 n3637) ((zp_set_ne (Or.inl n37)).trans h38) (fun j hj => zp_set_ne (Or.inr (by omega))) (zp_set_self.trans ?_)
                rw [hoq]
                unfold zo_en
                rw [if_pos (by omega)]
  have step_bn : ∀ (b d : Nat) (v1 v2 : Int) (G : Nat → Nat → Int), b < i2 → d + 1 < 400 → zgO a b3 b24 b25 b36 b37 R Oc Oa Nw G → G a 38 = 0 → 20 ≤ Oc b → Oc b ≤ 27 → G b37 (2000 + d) = v1 → G b37 (2000 + (d + 1)) = v2 → -2147483648 ≤ v1 ∧ v1 ≤ 2147483647 → -2147483648 ≤ v2 ∧ v2 ≤ 2147483647 → (∀ (v : Int) (G' : Nat → Nat → Int), yd_bn (Oc b) v1 v2 = some v → zgO a b3 b24 b25 b36 b37 R Oc Oa Nw G' → G' a 38 = 0 → (∀ j, j < d → G' b37 (2000 + j) = G b37 (2000 + j)) → G' b37 (2000 + d) = v → zp_J p l e Rm s m args below meth c Q w u [] 10 [(3, 0, ((d + 1 : Nat) : Int)), (4, 0, ((b + 1 : Nat) : Int)), (0, 2, (a : Int)), (1, 0, (i1 : Int)), (2, 0, (i2 : Int))] [] u.1 G') → (∀ G' : Nat → Nat → Int, yd_bn (Oc b) v1 v2 = none → zgO a b3 b24 b25 b36 b37 R Oc Oa Nw G' → G' a 38 = 1 → zp_J p l e Rm s m args below meth c Q w u [] 10 [(3, 0, ((d + 1 : Nat) : Int)), (4, 0, ((b + 1 : Nat) : Int)), (0, 2, (a : Int)), (1, 0, (i1 : Int)), (2, 0, (i2 : Int))] [] u.1 G') → zp_J p l e Rm s m args below meth c Q w u [] 10 [(3, 0, ((d + 2 : Nat) : Int)), (4, 0, ((b : Nat) : Int)), (0, 2, (a : Int)), (1, 0, (i1 : Int)), (2, 0, (i2 : Int))] [] u.1 G := by
    clear step_lf
    intro b d v1 v2 G hb2 hd hm h38 o1 o2 e1 e2 bd1 bd2 kk kb
    obtain ⟨oq, hoq⟩ : ∃ oq : Nat, Oc b = (oq : Int) := zp_nat (by omega)
    have ho3 : Oc b = (oq : Int) := hoq
    rw [hoq] at o1 o2 kk kb
    refine zp_drop (L' := [(3, 0, ((d : Int) + 2)), (4, 0, (b : Int)), (0, 2, (a : Int)), (1, 0, (i1 : Int)), (2, 0, (i2 : Int))]) (by simp <;> omega) ?_
    skip
    have hbr := hOa b (by omega)
    refine zp_load (pc := 10) hx hb (zd_X12_reckonAll (10, .iload 4, 2, 0, []) (List.mem_of_getElem? (i := 7) rfl)) rfl (j := 1) rfl ?_
    refine zp_load (pc := 12) hx hb (zd_X12_reckonAll (12, .iload_n 2, 1, 0, []) (List.mem_of_getElem? (i := 8) rfl)) rfl (j := 4) rfl ?_
    refine zp_icmp (pc := 13) (tgt := 371) hx hb (zd_X12_reckonAll (13, .if_icmp .ge 358, 3, 0, []) (List.mem_of_getElem? (i := 9) rfl)) rfl (fun (hc51 : (i2 : Int) ≤ (b : Int)) => ?_) (fun (hc51 : ¬ ((i2 : Int) ≤ (b : Int))) => ?_)
    · exfalso
      omega
    · refine zp_load (pc := 16) hx hb (zd_X12_reckonAll (16, .aload_n 0, 1, 0, []) (List.mem_of_getElem? (i := 10) rfl)) rfl (j := 2) rfl ?_
      refine zp_getf (n := 0) (pc := 17) hx hb hE hw (zd_X12_reckonAll (17, .getfield 388, 3, 0, []) (List.mem_of_getElem? (i := 11) rfl)) (j := 56) rfl rfl rfl hp h38 ?_
      refine zp_if (pc := 20) (tgt := 371) hx hb (zd_X12_reckonAll (20, .ifCond .ne 351, 3, 0, []) (List.mem_of_getElem? (i := 12) rfl)) rfl (fun (hc52 : ¬ 0 = 0) => ?_) (fun (hc52 : ¬ (¬ 0 = 0)) => ?_)
      · exfalso
        omega
      · refine zp_load (pc := 23) hx hb (zd_X12_reckonAll (23, .aload_n 0, 1, 0, []) (List.mem_of_getElem? (i := 13) rfl)) rfl (j := 2) rfl ?_
        refine zp_getf (n := 1) (pc := 24) hx hb hE hw (zd_X12_reckonAll (24, .getfield 319, 3, 0, []) (List.mem_of_getElem? (i := 14) rfl)) (j := 38) rfl rfl rfl hp hm.1 ?_
        refine zp_if (pc := 27) (tgt := 40) hx hb (zd_X12_reckonAll (27, .ifCond .eq 13, 3, 0, []) (List.mem_of_getElem? (i := 15) rfl)) rfl (fun (hc53 : 1 = 0) => ?_) (fun (hc53 : ¬ (1 = 0)) => ?_)
        · exfalso
          omega
        · refine zp_load (pc := 30) hx hb (zd_X12_reckonAll (30, .aload_n 0, 1, 0, []) (List.mem_of_getElem? (i := 16) rfl)) rfl (j := 2) rfl ?_
          refine zp_getf (n := (b24 : Int)) (pc := 31) hx hb hE hw (zd_X12_reckonAll (31, .getfield 45, 3, 0, []) (List.mem_of_getElem? (i := 17) rfl)) (j := 42) rfl rfl rfl hp hm.2.2.1 ?_
          refine zp_load (pc := 34) hx hb (zd_X12_reckonAll (34, .iload 4, 2, 0, []) (List.mem_of_getElem? (i := 18) rfl)) rfl (j := 1) rfl ?_
          refine zp_iald (j := b) (v := (oq : Int)) (pc := 36) hx hb hw (zd_X12_reckonAll (36, .iaload, 1, 0, []) (List.mem_of_getElem? (i := 19) rfl)) (show zp_ia 1 68 = some (400, 0, 0, (-2147483648), 2147483647) from rfl) q24 (by omega) (by omega) ((hm.2.2.2.2.2.2.2.1 _).trans ho3) (fun hk54 => ?_)
          have hk54b := zp_int hk54
          refine zp_goto (tgt := 57) (pc := 37) hx hb (zd_X12_reckonAll (37, .goto 20, 3, 0, []) (List.mem_of_getElem? (i := 20) rfl)) rfl ?_
          refine zp_store (L' := [(5, 0, (oq : Int)), (3, 0, ((d : Int) + 2)), (4, 0, (b : Int)), (0, 2, (a : Int)), (1, 0, (i1 : Int)), (2, 0, (i2 : Int))]) (pc := 57) hx hb hnL (zd_X12_reckonAll (57, .istore 5, 2, 0, []) (List.mem_of_getElem? (i := 32) rfl)) rfl rfl rfl ?_
          refine zp_load (pc := 59) hx hb (zd_X12_reckonAll (59, .aload_n 0, 1, 0, []) (List.mem_of_getElem? (i := 33) rfl)) rfl (j := 3) rfl ?_
          refine zp_getf (n := 1) (pc := 60) hx hb hE hw (zd_X12_reckonAll (60, .getfield 319, 3, 0, []) (List.mem_of_getElem? (i := 34) rfl)) (j := 38) rfl rfl rfl hp hm.1 ?_
          refine zp_if (pc := 63) (tgt := 76) hx hb (zd_X12_reckonAll (63, .ifCond .eq 13, 3, 0, []) (List.mem_of_getElem? (i := 35) rfl)) rfl (fun (hc55 : 1 = 0) => ?_) (fun (hc55 : ¬ (1 = 0)) => ?_)
          · exfalso
            omega
          · refine zp_load (pc := 66) hx hb (zd_X12_reckonAll (66, .aload_n 0, 1, 0, []) (List.mem_of_getElem? (i := 36) rfl)) rfl (j := 3) rfl ?_
            refine zp_getf (n := (b25 : Int)) (pc := 67) hx hb hE hw (zd_X12_reckonAll (67, .getfield 48, 3, 0, []) (List.mem_of_getElem? (i := 37) rfl)) (j := 43) rfl rfl rfl hp hm.2.2.2.1 ?_
            refine zp_load (pc := 70) hx hb (zd_X12_reckonAll (70, .iload 4, 2, 0, []) (List.mem_of_getElem? (i := 38) rfl)) rfl (j := 2) rfl ?_
            refine zp_iald (j := b) (v := (Oa b)) (pc := 72) hx hb hw (zd_X12_reckonAll (72, .iaload, 1, 0, []) (List.mem_of_getElem? (i := 39) rfl)) (show zp_ia 1 69 = some (400, 0, 0, (-2147483648), 2147483647) from rfl) q25 (by omega) (by omega) (hm.2.2.2.2.2.2.2.2.1 _) (fun hk56 => ?_)
            have hk56b := zp_int hk56
            refine zp_goto (tgt := 95) (pc := 73) hx hb (zd_X12_reckonAll (73, .goto 22, 3, 0, []) (List.mem_of_getElem? (i := 40) rfl)) rfl ?_
            refine zp_store (L' := [(6, 0, (Oa b)), (5, 0, (oq : Int)), (3, 0, ((d : Int) + 2)), (4, 0, (b : Int)), (0, 2, (a : Int)), (1, 0, (i1 : Int)), (2, 0, (i2 : Int))]) (pc := 95) hx hb hnL (zd_X12_reckonAll (95, .istore 6, 2, 0, []) (List.mem_of_getElem? (i := 54) rfl)) rfl rfl rfl ?_
            refine zp_iinc (L' := [(4, 0, ((b : Int) + 1)), (6, 0, (Oa b)), (5, 0, (oq : Int)), (3, 0, ((d : Int) + 2)), (0, 2, (a : Int)), (1, 0, (i1 : Int)), (2, 0, (i2 : Int))]) (n := ((b : Int) + 1)) (pc := 97) hx hb hnL (zd_X12_reckonAll (97, .iinc 4 1, 3, 0, []) (List.mem_of_getElem? (i := 55) rfl)) (j := 3) rfl (by omega) (zp_r0 (by omega) (by omega)) rfl rfl ?_
            refine zp_load (pc := 100) hx hb (zd_X12_reckonAll (100, .iload 5, 2, 0, []) (List.mem_of_getElem? (i := 56) rfl)) rfl (j := 2) rfl ?_
            refine zp_const (pc := 102) hx hb (zd_X12_reckonAll (102, .bipush 20, 2, 0, []) (List.mem_of_getElem? (i := 57) rfl)) rfl rfl ?_
            refine zp_icmp (pc := 104) (tgt := 229) hx hb (zd_X12_reckonAll (104, .if_icmp .ge 125, 3, 0, []) (List.mem_of_getElem? (i := 58) rfl)) rfl (fun (hc57 : 20 ≤ (oq : Int)) => ?_) (fun (hc57 : ¬ (20 ≤ (oq : Int))) => ?_)
            · refine zp_load (pc := 229) hx hb (zd_X12_reckonAll (229, .iload 5, 2, 0, []) (List.mem_of_getElem? (i := 119) rfl)) rfl (j := 2) rfl ?_
              refine zp_const (pc := 231) hx hb (zd_X12_reckonAll (231, .bipush 28, 2, 0, []) (List.mem_of_getElem? (i := 120) rfl)) rfl rfl ?_
              refine zp_icmp (pc := 233) (tgt := 306) hx hb (zd_X12_reckonAll (233, .if_icmp .ge 73, 3, 0, []) (List.mem_of_getElem? (i := 121) rfl)) rfl (fun (hc58 : 28 ≤ (oq : Int)) => ?_) (fun (hc58 : ¬ (28 ≤ (oq : Int))) => ?_)
              · exfalso
                omega
              · refine zp_iinc (L' := [(3, 0, ((d : Int) + 1)), (4, 0, ((b : Int) + 1)), (6, 0, (Oa b)), (5, 0, (oq : Int)), (0, 2, (a : Int)), (1, 0, (i1 : Int)), (2, 0, (i2 : Int))]) (n := ((d : Int) + 1)) (pc := 236) hx hb hnL (zd_X12_reckonAll (236, .iinc 3 (-1), 3, 0, []) (List.mem_of_getElem? (i := 122) rfl)) (j := 3) rfl (by omega) (zp_r0 (by omega) (by omega)) rfl rfl ?_
                refine zp_load (pc := 239) hx hb (zd_X12_reckonAll (239, .aload_n 0, 1, 0, []) (List.mem_of_getElem? (i := 123) rfl)) rfl (j := 4) rfl ?_
                refine zp_getf (n := (b37 : Int)) (pc := 240) hx hb hE hw (zd_X12_reckonAll (240, .getfield 107, 3, 0, []) (List.mem_of_getElem? (i := 124) rfl)) (j := 55) rfl rfl rfl hp hm.2.2.2.2.2.1 ?_
                refine zp_load (pc := 243) hx hb (zd_X12_reckonAll (243, .iload_n 3, 1, 0, []) (List.mem_of_getElem? (i := 125) rfl)) rfl (j := 0) rfl ?_
                refine zp_const (pc := 244) hx hb (zd_X12_reckonAll (244, .iconst 1, 1, 0, []) (List.mem_of_getElem? (i := 126) rfl)) rfl rfl ?_
                refine zp_sub (n := (d : Int)) (pc := 245) hx hb (zd_X12_reckonAll (245, .isub, 1, 0, []) (List.mem_of_getElem? (i := 127) rfl)) (by omega) (zp_r0 (by omega) (by omega)) ?_
                refine zp_load (pc := 246) hx hb (zd_X12_reckonAll (246, .aload_n 0, 1, 0, []) (List.mem_of_getElem? (i := 128) rfl)) rfl (j := 4) rfl ?_
                refine zp_load (pc := 247) hx hb (zd_X12_reckonAll (247, .iload 5, 2, 0, []) (List.mem_of_getElem? (i := 129) rfl)) rfl (j := 3) rfl ?_
                refine zp_load (pc := 249) hx hb (zd_X12_reckonAll (249, .aload_n 0, 1, 0, []) (List.mem_of_getElem? (i := 130) rfl)) rfl (j := 4) rfl ?_
                refine zp_getf (n := (b37 : Int)) (pc := 250) hx hb hE hw (zd_X12_reckonAll (250, .getfield 107, 3, 0, []) (List.mem_of_getElem? (i := 131) rfl)) (j := 55) rfl rfl rfl hp hm.2.2.2.2.2.1 ?_
                refine zp_load (pc := 253) hx hb (zd_X12_reckonAll (253, .iload_n 3, 1, 0, []) (List.mem_of_getElem? (i := 132) rfl)) rfl (j := 0) rfl ?_
                refine zp_const (pc := 254) hx hb (zd_X12_reckonAll (254, .iconst 1, 1, 0, []) (List.mem_of_getElem? (i := 133) rfl)) rfl rfl ?_
                refine zp_sub (n := (d : Int)) (pc := 255) hx hb (zd_X12_reckonAll (255, .isub, 1, 0, []) (List.mem_of_getElem? (i := 134) rfl)) (by omega) (zp_r0 (by omega) (by omega)) ?_
                refine zp_lald (j := d) (v := v1) (pc := 256) hx hb hw (zd_X12_reckonAll (256, .laload, 1, 0, []) (List.mem_of_getElem? (i := 135) rfl)) (show zp_ia 2 77 = some (400, 1, 0, (-9223372036854775808), 9223372036854775807) from rfl) q37 (by omega) (by omega) e1 ?_
                refine zp_load (pc := 257) hx hb (zd_X12_reckonAll (257, .aload_n 0, 1, 0, []) (List.mem_of_getElem? (i := 136) rfl)) rfl (j := 4) rfl ?_
                refine zp_getf (n := (b37 : Int)) (pc := 258) hx hb hE hw (zd_X12_reckonAll (258, .getfield 107, 3, 0, []) (List.mem_of_getElem? (i := 137) rfl)) (j := 55) rfl rfl rfl hp hm.2.2.2.2.2.1 ?_
                refine zp_load (pc := 261) hx hb (zd_X12_reckonAll (261, .iload_n 3, 1, 0, []) (List.mem_of_getElem? (i := 138) rfl)) rfl (j := 0) rfl ?_
                refine zp_lald (j := (d + 1)) (v := v2) (pc := 262) hx hb hw (zd_X12_reckonAll (262, .laload, 1, 0, []) (List.mem_of_getElem? (i := 139) rfl)) (show zp_ia 2 77 = some (400, 1, 0, (-9223372036854775808), 9223372036854775807) from rfl) q37 (by omega) (by omega) e2 ?_
                have hx1 : -2147483648 ≤ v1 ∧ v1 ≤ 2147483647 := bd1
                refine zp_call (pc := 263) (how := 0) (idx := 394) (mi := 244) (S := [(0, (d : Int)), (2, (b37 : Int))]) hx hb hE hw heff hrm (zX_rk9 hW) rfl (j := 44) rfl rfl (by decide +kernel) (zd_X12_reckonAll (263, .invokevirtual 394, 3, 0, []) (List.mem_of_getElem? (i := 140) rfl)) [(a : Int), (oq : Int), v1, v2] rfl ⟨zp_o2 hp, zp_o0 (by omega) (by omega) (by omega) (by omega), zp_o1 (zp_r1 (by omega) (by omega)), zp_o1 (zp_r1 (by omega) (by omega)), trivial⟩ (Nat.le_of_ble_eq_true rfl) ⟨⟨bd1.1, Int.le_trans bd1.2 (by decide)⟩, bd2.1, Int.le_trans bd2.2 (by decide)⟩ (fun al hal rnk Pk Gk hextk hfrk hokk hcsk hpsik => ?_)
                obtain rfl := List.mem_singleton.mp hal
                have yak := hextk _ _ hp
                have yb3k := hextk _ _ q3
                have yb24k := hextk _ _ q24
                have yb25k := hextk _ _ q25
                have yb36k := hextk _ _ q36
                have yb37k := hextk _ _ q37
                obtain ⟨hPk, hk1, hk2⟩ := hpsik
                have hk1 : (((oq : Int) = 23 ∨ (oq : Int) = 24) ∧ v2 = 0 → Gk a 38 = 1 ∧ rnk = 0) := hk1
                have hk2 : (¬ (((oq : Int) = 23 ∨ (oq : Int) = 24) ∧ v2 = 0) → rnk = yd_v oq v1 v2 ∧ Gk a 38 = if (oq : Int) = 23 ∨ (oq : Int) = 24 then 0 else G a 38) := hk2
                rw [h38] at hk2
                have hmk := zgO_f hm hp q3 q24 q25 q36 hfrk rfl
                subst hPk
                have hc : (yd_bn oq v1 v2 = some rnk ∧ Gk a 38 = 0 ∧ -1000000000 ≤ rnk ∧ rnk ≤ 1000000000) ∨ (yd_bn oq v1 v2 = none ∧ (Gk a 38 = 1 ∨ (Gk a 38 = 0 ∧ ¬ (-1000000000 ≤ rnk ∧ rnk ≤ 1000000000)))) := zg_bn hk1 hk2
                have hrgk : zk_rg 1 rnk := (hokk _ rfl).1.2.2
                clear hk1 hk2
                have h9j : ∀ j, Gk b37 (2000 + j) = G b37 (2000 + j) := fun j => zp_nc hfrk q37 rfl _
                refine zp_last (j := d) (pc := 266) hx hb hw heff (zd_X12_reckonAll (266, .lastore, 1, 0, []) (List.mem_of_getElem? (i := 141) rfl)) (show zp_ia 2 77 = some (400, 1, 0, (-9223372036854775808), 9223372036854775807) from rfl) q37 (by omega) (by omega) rfl ?_
                refine zp_load (pc := 267) hx hb (zd_X12_reckonAll (267, .aload_n 0, 1, 0, []) (List.mem_of_getElem? (i := 142) rfl)) rfl (j := 4) rfl ?_
                refine zp_load (pc := 268) hx hb (zd_X12_reckonAll (268, .aload_n 0, 1, 0, []) (List.mem_of_getElem? (i := 143) rfl)) rfl (j := 4) rfl ?_
                refine zp_getf (n := (Gk a 38)) (pc := 269) hx hb hE hw (zd_X12_reckonAll (269, .getfield 388, 3, 0, []) (List.mem_of_getElem? (i := 144) rfl)) (j := 56) rfl rfl rfl hp ((zp_set_ne (Or.inl (zp_pne hp q37 (by decide))))) ?_
                refine zp_if (pc := 272) (tgt := 295) hx hb (zd_X12_reckonAll (272, .ifCond .ne 23, 3, 0, []) (List.mem_of_getElem? (i := 145) rfl)) rfl (fun (hc61 : ¬ (Gk a 38) = 0) => ?_) (fun (hc61 : ¬ (¬ (Gk a 38) = 0)) => ?_)
                · refine zp_const (pc := 295) hx hb (zd_X12_reckonAll (295, .iconst 1, 1, 0, []) (List.mem_of_getElem? (i := 156) rfl)) rfl rfl ?_
                  refine zp_goto (tgt := 300) (pc := 296) hx hb (zd_X12_reckonAll (296, .goto 4, 3, 0, []) (List.mem_of_getElem? (i := 157) rfl)) rfl ?_
                  refine zp_putf (pc := 300) hx hb hE hw heff (zd_X12_reckonAll (300, .putfield 388, 3, 0, []) (List.mem_of_getElem? (i := 159) rfl)) (j := 56) rfl rfl rfl hp (zp_o0 (by decide) (by decide) (by decide) (by decide)) ?_
                  refine zp_goto (tgt := 368) (pc := 303) hx hb (zd_X12_reckonAll (303, .goto 65, 3, 0, []) (List.mem_of_getElem? (i := 160) rfl)) rfl ?_
                  refine zp_goto (tgt := 10) (pc := 368) hx hb (zd_X12_reckonAll (368, .goto (-358), 3, 0, []) (List.mem_of_getElem? (i := 197) rfl)) rfl ?_
                  refine zp_drop (L' := [(3, 0, ((d : Int) + 1)), (4, 0, ((b : Int) + 1)), (0, 2, (a : Int)), (1, 0, (i1 : Int)), (2, 0, (i2 : Int))]) (by simp) ?_
                  rcases hc with ⟨c1, c2, c3, c4⟩ | ⟨c1, c2⟩
                  · exfalso
                    omega
                  · exact kb _ c1 (zgO_a (zgO_b hmk n37 n337 n2437 n2537 n3637) n3 n24 n25 n36 (Or.inl rfl)) zp_set_self
                · refine zp_load (pc := 275) hx hb (zd_X12_reckonAll (275, .aload_n 0, 1, 0, []) (List.mem_of_getElem? (i := 146) rfl)) rfl (j := 4) rfl ?_
                  refine zp_getf (n := (b37 : Int)) (pc := 276) hx hb hE hw (zd_X12_reckonAll (276, .getfield 107, 3, 0, []) (List.mem_of_getElem? (i := 147) rfl)) (j := 55) rfl rfl rfl hp ((zp_set_ne (Or.inl (zp_pne hp q37 (by decide)))).trans (hmk.2.2.2.2.2.1)) ?_
                  refine zp_load (pc := 279) hx hb (zd_X12_reckonAll (279, .iload_n 3, 1, 0, []) (List.mem_of_getElem? (i := 148) rfl)) rfl (j := 0) rfl ?_
                  refine zp_const (pc := 280) hx hb (zd_X12_reckonAll (280, .iconst 1, 1, 0, []) (List.mem_of_getElem? (i := 149) rfl)) rfl rfl ?_
                  refine zp_sub (n := (d : Int)) (pc := 281) hx hb (zd_X12_reckonAll (281, .isub, 1, 0, []) (List.mem_of_getElem? (i := 150) rfl)) (by omega) (zp_r0 (by omega) (by omega)) ?_
                  refine zp_lald (j := d) (v := rnk) (pc := 282) hx hb hw (zd_X12_reckonAll (282, .laload, 1, 0, []) (List.mem_of_getElem? (i := 151) rfl)) (show zp_ia 2 77 = some (400, 1, 0, (-9223372036854775808), 9223372036854775807) from rfl) q37 (by omega) (by omega) zp_set_self ?_
                  refine zp_ldc2 (pc := 283) hx hb hE (zd_X12_reckonAll (283, .ldc2_w 398, 3, 0, []) (List.mem_of_getElem? (i := 152) rfl)) (j := 106) rfl ?_
                  refine zp_ldc2 (pc := 286) hx hb hE (zd_X12_reckonAll (286, .ldc2_w 400, 3, 0, []) (List.mem_of_getElem? (i := 153) rfl)) (j := 107) rfl ?_
                  refine zp_call (pc := 289) (how := 1) (idx := 181) (mi := 186) (S := [(2, (a : Int))]) hx hb hE hw heff hrm (zX_in2 hW) rfl (j := 2) rfl rfl (by decide +kernel) (zd_X12_reckonAll (289, .invokestatic 181, 3, 0, []) (List.mem_of_getElem? (i := 154) rfl)) [rnk, (-1000000000), 1000000000] rfl ⟨zp_o1 (by first | assumption | exact zp_r1 (by omega) (by omega)), zp_o1 (by first | assumption | exact zp_r1 (by omega) (by omega)), zp_o1 (by first | assumption | exact zp_r1 (by omega) (by omega)), trivial⟩ (Nat.le_of_ble_eq_true rfl) trivial (fun al hal rnw63 Pw63 Gw63 hextw63 hfrw63 hokw63 hcsw63 hpsiw63 => ?_)
                  obtain rfl := List.mem_singleton.mp hal
                  have hrw63 := zp_int (hokw63 _ rfl).1
                  obtain ⟨hPew63, hGew63, htw63⟩ := hpsiw63
                  have htw63 : rnw63 = 1 ↔ (-1000000000) ≤ rnk ∧ rnk ≤ 1000000000 := htw63
                  rw [hPew63, hGew63]
                  refine zp_if (pc := 292) (tgt := 299) hx hb (zd_X12_reckonAll (292, .ifCond .ne 7, 3, 0, []) (List.mem_of_getElem? (i := 155) rfl)) rfl (fun (hc64 : ¬ rnw63 = 0) => ?_) (fun (hc64 : ¬ (¬ rnw63 = 0)) => ?_)
                  · refine zp_const (pc := 299) hx hb (zd_X12_reckonAll (299, .iconst 0, 1, 0, []) (List.mem_of_getElem? (i := 158) rfl)) rfl rfl ?_
                    refine zp_putf (pc := 300) hx hb hE hw heff (zd_X12_reckonAll (300, .putfield 388, 3, 0, []) (List.mem_of_getElem? (i := 159) rfl)) (j := 56) rfl rfl rfl hp (zp_o0 (by decide) (by decide) (by decide) (by decide)) ?_
                    refine zp_goto (tgt := 368) (pc := 303) hx hb (zd_X12_reckonAll (303, .goto 65, 3, 0, []) (List.mem_of_getElem? (i := 160) rfl)) rfl ?_
                    refine zp_goto (tgt := 10) (pc := 368) hx hb (zd_X12_reckonAll (368, .goto (-358), 3, 0, []) (List.mem_of_getElem? (i := 197) rfl)) rfl ?_
                    refine zp_drop (L' := [(3, 0, ((d : Int) + 1)), (4, 0, ((b : Int) + 1)), (0, 2, (a : Int)), (1, 0, (i1 : Int)), (2, 0, (i2 : Int))]) (by simp) ?_
                    rcases hc with ⟨c1, c2, c3, c4⟩ | ⟨c1, c2⟩
                    · exact kk rnk _ c1 (zgO_a (zgO_b hmk n37 n337 n2437 n2537 n3637) n3 n24 n25 n36 (Or.inl rfl)) zp_set_self (fun j hj => (zp_set_ne (Or.inl n37.symm)).trans ((zp_set_ne (Or.inr (by omega))).trans (h9j j))) ((zp_set_ne (Or.inl n37.symm)).trans zp_set_self)
                    · exfalso
                      omega
                  · refine zp_const (pc := 295) hx hb (zd_X12_reckonAll (295, .iconst 1, 1, 0, []) (List.mem_of_getElem? (i := 156) rfl)) rfl rfl ?_
                    refine zp_goto (tgt := 300) (pc := 296) hx hb (zd_X12_reckonAll (296, .goto 4, 3, 0, []) (List.mem_of_getElem? (i := 157) rfl)) rfl ?_
                    refine zp_putf (pc := 300) hx hb hE hw heff (zd_X12_reckonAll (300, .putfield 388, 3, 0, []) (List.mem_of_getElem? (i := 159) rfl)) (j := 56) rfl rfl rfl hp (zp_o0 (by decide) (by decide) (by decide) (by decide)) ?_
                    refine zp_goto (tgt := 368) (pc := 303) hx hb (zd_X12_reckonAll (303, .goto 65, 3, 0, []) (List.mem_of_getElem? (i := 160) rfl)) rfl ?_
                    refine zp_goto (tgt := 10) (pc := 368) hx hb (zd_X12_reckonAll (368, .goto (-358), 3, 0, []) (List.mem_of_getElem? (i := 197) rfl)) rfl ?_
                    refine zp_drop (L' := [(3, 0, ((d : Int) + 1)), (4, 0, ((b : Int) + 1)), (0, 2, (a : Int)), (1, 0, (i1 : Int)), (2, 0, (i2 : Int))]) (by simp) ?_
                    rcases hc with ⟨c1, c2, c3, c4⟩ | ⟨c1, c2⟩
                    · exfalso
                      omega
                    · exact kb _ c1 (zgO_a (zgO_b hmk n37 n337 n2437 n2537 n3637) n3 n24 n25 n36 (Or.inl rfl)) zp_set_self
            · exfalso
              omega
  have step_nt : ∀ (b d : Nat) (v1 : Int) (G : Nat → Nat → Int), b < i2 → d < 400 → zgO a b3 b24 b25 b36 b37 R Oc Oa Nw G → G a 38 = 0 → Oc b = 28 → G b37 (2000 + d) = v1 → -2147483648 ≤ v1 ∧ v1 ≤ 2147483647 → (∀ G' : Nat → Nat → Int, zgO a b3 b24 b25 b36 b37 R Oc Oa Nw G' → G' a 38 = 0 → (∀ j, j < d → G' b37 (2000 + j) = G b37 (2000 + j)) → G' b37 (2000 + d) = 1 - v1 → zp_J p l e Rm s m args below meth c Q w u [] 10 [(3, 0, ((d + 1 : Nat) : Int)), (4, 0, ((b + 1 : Nat) : Int)), (0, 2, (a : Int)), (1, 0, (i1 : Int)), (2, 0, (i2 : Int))] [] u.1 G') → zp_J p l e Rm s m args below meth c Q w u [] 10 [(3, 0, ((d + 1 : Nat) : Int)), (4, 0, ((b : Nat) : Int)), (0, 2, (a : Int)), (1, 0, (i1 : Int)), (2, 0, (i2 : Int))] [] u.1 G := by
    clear step_lf step_bn
    intro b d v1 G hb2 hd hm h38 o1 e1 bd1 kk
    have ho3 : Oc b = 28 := o1
    refine zp_drop (L' := [(3, 0, ((d : Int) + 1)), (4, 0, (b : Int)), (0, 2, (a : Int)), (1, 0, (i1 : Int)), (2, 0, (i2 : Int))]) (by simp <;> omega) ?_
    skip
    have hbr := hOa b (by omega)
    refine zp_load (pc := 10) hx hb (zd_X12_reckonAll (10, .iload 4, 2, 0, []) (List.mem_of_getElem? (i := 7) rfl)) rfl (j := 1) rfl ?_
    refine zp_load (pc := 12) hx hb (zd_X12_reckonAll (12, .iload_n 2, 1, 0, []) (List.mem_of_getElem? (i := 8) rfl)) rfl (j := 4) rfl ?_
    refine zp_icmp (pc := 13) (tgt := 371) hx hb (zd_X12_reckonAll (13, .if_icmp .ge 358, 3, 0, []) (List.mem_of_getElem? (i := 9) rfl)) rfl (fun (hc65 : (i2 : Int) ≤ (b : Int)) => ?_) (fun (hc65 : ¬ ((i2 : Int) ≤ (b : Int))) => ?_)
    · exfalso
      omega
    · refine zp_load (pc := 16) hx hb (zd_X12_reckonAll (16, .aload_n 0, 1, 0, []) (List.mem_of_getElem? (i := 10) rfl)) rfl (j := 2) rfl ?_
      refine zp_getf (n := 0) (pc := 17) hx hb hE hw (zd_X12_reckonAll (17, .getfield 388, 3, 0, []) (List.mem_of_getElem? (i := 11) rfl)) (j := 56) rfl rfl rfl hp h38 ?_
      refine zp_if (pc := 20) (tgt := 371) hx hb (zd_X12_reckonAll (20, .ifCond .ne 351, 3, 0, []) (List.mem_of_getElem? (i := 12) rfl)) rfl (fun (hc66 : ¬ 0 = 0) => ?_) (fun (hc66 : ¬ (¬ 0 = 0)) => ?_)
      · exfalso
        omega
      · refine zp_load (pc := 23) hx hb (zd_X12_reckonAll (23, .aload_n 0, 1, 0, []) (List.mem_of_getElem? (i := 13) rfl)) rfl (j := 2) rfl ?_
        refine zp_getf (n := 1) (pc := 24) hx hb hE hw (zd_X12_reckonAll (24, .getfield 319, 3, 0, []) (List.mem_of_getElem? (i := 14) rfl)) (j := 38) rfl rfl rfl hp hm.1 ?_
        refine zp_if (pc := 27) (tgt := 40) hx hb (zd_X12_reckonAll (27, .ifCond .eq 13, 3, 0, []) (List.mem_of_getElem? (i := 15) rfl)) rfl (fun (hc67 : 1 = 0) => ?_) (fun (hc67 : ¬ (1 = 0)) => ?_)
        · exfalso
          omega
        · refine zp_load (pc := 30) hx hb (zd_X12_reckonAll (30, .aload_n 0, 1, 0, []) (List.mem_of_getElem? (i := 16) rfl)) rfl (j := 2) rfl ?_
          refine zp_getf (n := (b24 : Int)) (pc := 31) hx hb hE hw (zd_X12_reckonAll (31, .getfield 45, 3, 0, []) (List.mem_of_getElem? (i := 17) rfl)) (j := 42) rfl rfl rfl hp hm.2.2.1 ?_
          refine zp_load (pc := 34) hx hb (zd_X12_reckonAll (34, .iload 4, 2, 0, []) (List.mem_of_getElem? (i := 18) rfl)) rfl (j := 1) rfl ?_
          refine zp_iald (j := b) (v := 28) (pc := 36) hx hb hw (zd_X12_reckonAll (36, .iaload, 1, 0, []) (List.mem_of_getElem? (i := 19) rfl)) (show zp_ia 1 68 = some (400, 0, 0, (-2147483648), 2147483647) from rfl) q24 (by omega) (by omega) ((hm.2.2.2.2.2.2.2.1 _).trans ho3) (fun hk68 => ?_)
          have hk68b := zp_int hk68
          refine zp_goto (tgt := 57) (pc := 37) hx hb (zd_X12_reckonAll (37, .goto 20, 3, 0, []) (List.mem_of_getElem? (i := 20) rfl)) rfl ?_
          refine zp_store (L' := [(5, 0, 28), (3, 0, ((d : Int) + 1)), (4, 0, (b : Int)), (0, 2, (a : Int)), (1, 0, (i1 : Int)), (2, 0, (i2 : Int))]) (pc := 57) hx hb hnL (zd_X12_reckonAll (57, .istore 5, 2, 0, []) (List.mem_of_getElem? (i := 32) rfl)) rfl rfl rfl ?_
          refine zp_load (pc := 59) hx hb (zd_X12_reckonAll (59, .aload_n 0, 1, 0, []) (List.mem_of_getElem? (i := 33) rfl)) rfl (j := 3) rfl ?_
          refine zp_getf (n := 1) (pc := 60) hx hb hE hw (zd_X12_reckonAll (60, .getfield 319, 3, 0, []) (List.mem_of_getElem? (i := 34) rfl)) (j := 38) rfl rfl rfl hp hm.1 ?_
          refine zp_if (pc := 63) (tgt := 76) hx hb (zd_X12_reckonAll (63, .ifCond .eq 13, 3, 0, []) (List.mem_of_getElem? (i := 35) rfl)) rfl (fun (hc69 : 1 = 0) => ?_) (fun (hc69 : ¬ (1 = 0)) => ?_)
          · exfalso
            omega
          · refine zp_load (pc := 66) hx hb (zd_X12_reckonAll (66, .aload_n 0, 1, 0, []) (List.mem_of_getElem? (i := 36) rfl)) rfl (j := 3) rfl ?_
            refine zp_getf (n := (b25 : Int)) (pc := 67) hx hb hE hw (zd_X12_reckonAll (67, .getfield 48, 3, 0, []) (List.mem_of_getElem? (i := 37) rfl)) (j := 43) rfl rfl rfl hp hm.2.2.2.1 ?_
            refine zp_load (pc := 70) hx hb (zd_X12_reckonAll (70, .iload 4, 2, 0, []) (List.mem_of_getElem? (i := 38) rfl)) rfl (j := 2) rfl ?_
            refine zp_iald (j := b) (v := (Oa b)) (pc := 72) hx hb hw (zd_X12_reckonAll (72, .iaload, 1, 0, []) (List.mem_of_getElem? (i := 39) rfl)) (show zp_ia 1 69 = some (400, 0, 0, (-2147483648), 2147483647) from rfl) q25 (by omega) (by omega) (hm.2.2.2.2.2.2.2.2.1 _) (fun hk70 => ?_)
            have hk70b := zp_int hk70
            refine zp_goto (tgt := 95) (pc := 73) hx hb (zd_X12_reckonAll (73, .goto 22, 3, 0, []) (List.mem_of_getElem? (i := 40) rfl)) rfl ?_
            refine zp_store (L' := [(6, 0, (Oa b)), (5, 0, 28), (3, 0, ((d : Int) + 1)), (4, 0, (b : Int)), (0, 2, (a : Int)), (1, 0, (i1 : Int)), (2, 0, (i2 : Int))]) (pc := 95) hx hb hnL (zd_X12_reckonAll (95, .istore 6, 2, 0, []) (List.mem_of_getElem? (i := 54) rfl)) rfl rfl rfl ?_
            refine zp_iinc (L' := [(4, 0, ((b : Int) + 1)), (6, 0, (Oa b)), (5, 0, 28), (3, 0, ((d : Int) + 1)), (0, 2, (a : Int)), (1, 0, (i1 : Int)), (2, 0, (i2 : Int))]) (n := ((b : Int) + 1)) (pc := 97) hx hb hnL (zd_X12_reckonAll (97, .iinc 4 1, 3, 0, []) (List.mem_of_getElem? (i := 55) rfl)) (j := 3) rfl (by omega) (zp_r0 (by omega) (by omega)) rfl rfl ?_
            refine zp_load (pc := 100) hx hb (zd_X12_reckonAll (100, .iload 5, 2, 0, []) (List.mem_of_getElem? (i := 56) rfl)) rfl (j := 2) rfl ?_
            refine zp_const (pc := 102) hx hb (zd_X12_reckonAll (102, .bipush 20, 2, 0, []) (List.mem_of_getElem? (i := 57) rfl)) rfl rfl ?_
            refine zp_icmp (pc := 104) (tgt := 229) hx hb (zd_X12_reckonAll (104, .if_icmp .ge 125, 3, 0, []) (List.mem_of_getElem? (i := 58) rfl)) rfl (fun (hc71 : 20 ≤ 28) => ?_) (fun (hc71 : ¬ (20 ≤ 28)) => ?_)
            · refine zp_load (pc := 229) hx hb (zd_X12_reckonAll (229, .iload 5, 2, 0, []) (List.mem_of_getElem? (i := 119) rfl)) rfl (j := 2) rfl ?_
              refine zp_const (pc := 231) hx hb (zd_X12_reckonAll (231, .bipush 28, 2, 0, []) (List.mem_of_getElem? (i := 120) rfl)) rfl rfl ?_
              refine zp_icmp (pc := 233) (tgt := 306) hx hb (zd_X12_reckonAll (233, .if_icmp .ge 73, 3, 0, []) (List.mem_of_getElem? (i := 121) rfl)) rfl (fun (hc72 : 28 ≤ 28) => ?_) (fun (hc72 : ¬ (28 ≤ 28)) => ?_)
              · refine zp_load (pc := 306) hx hb (zd_X12_reckonAll (306, .iload 5, 2, 0, []) (List.mem_of_getElem? (i := 161) rfl)) rfl (j := 2) rfl ?_
                refine zp_const (pc := 308) hx hb (zd_X12_reckonAll (308, .bipush 28, 2, 0, []) (List.mem_of_getElem? (i := 162) rfl)) rfl rfl ?_
                refine zp_icmp (pc := 310) (tgt := 334) hx hb (zd_X12_reckonAll (310, .if_icmp .ne 24, 3, 0, []) (List.mem_of_getElem? (i := 163) rfl)) rfl (fun (hc73 : ¬ 28 = 28) => ?_) (fun (hc73 : ¬ (¬ 28 = 28)) => ?_)
                · exfalso
                  omega
                · refine zp_load (pc := 313) hx hb (zd_X12_reckonAll (313, .aload_n 0, 1, 0, []) (List.mem_of_getElem? (i := 164) rfl)) rfl (j := 4) rfl ?_
                  refine zp_getf (n := (b37 : Int)) (pc := 314) hx hb hE hw (zd_X12_reckonAll (314, .getfield 107, 3, 0, []) (List.mem_of_getElem? (i := 165) rfl)) (j := 55) rfl rfl rfl hp hm.2.2.2.2.2.1 ?_
                  refine zp_load (pc := 317) hx hb (zd_X12_reckonAll (317, .iload_n 3, 1, 0, []) (List.mem_of_getElem? (i := 166) rfl)) rfl (j := 3) rfl ?_
                  refine zp_const (pc := 318) hx hb (zd_X12_reckonAll (318, .iconst 1, 1, 0, []) (List.mem_of_getElem? (i := 167) rfl)) rfl rfl ?_
                  refine zp_sub (n := (d : Int)) (pc := 319) hx hb (zd_X12_reckonAll (319, .isub, 1, 0, []) (List.mem_of_getElem? (i := 168) rfl)) (by omega) (zp_r0 (by omega) (by omega)) ?_
                  refine zp_const (pc := 320) hx hb (zd_X12_reckonAll (320, .lconst 1, 1, 0, []) (List.mem_of_getElem? (i := 169) rfl)) rfl rfl ?_
                  refine zp_load (pc := 321) hx hb (zd_X12_reckonAll (321, .aload_n 0, 1, 0, []) (List.mem_of_getElem? (i := 170) rfl)) rfl (j := 4) rfl ?_
                  refine zp_getf (n := (b37 : Int)) (pc := 322) hx hb hE hw (zd_X12_reckonAll (322, .getfield 107, 3, 0, []) (List.mem_of_getElem? (i := 171) rfl)) (j := 55) rfl rfl rfl hp hm.2.2.2.2.2.1 ?_
                  refine zp_load (pc := 325) hx hb (zd_X12_reckonAll (325, .iload_n 3, 1, 0, []) (List.mem_of_getElem? (i := 172) rfl)) rfl (j := 3) rfl ?_
                  refine zp_const (pc := 326) hx hb (zd_X12_reckonAll (326, .iconst 1, 1, 0, []) (List.mem_of_getElem? (i := 173) rfl)) rfl rfl ?_
                  refine zp_sub (n := (d : Int)) (pc := 327) hx hb (zd_X12_reckonAll (327, .isub, 1, 0, []) (List.mem_of_getElem? (i := 174) rfl)) (by omega) (zp_r0 (by omega) (by omega)) ?_
                  refine zp_lald (j := d) (v := v1) (pc := 328) hx hb hw (zd_X12_reckonAll (328, .laload, 1, 0, []) (List.mem_of_getElem? (i := 175) rfl)) (show zp_ia 2 77 = some (400, 1, 0, (-9223372036854775808), 9223372036854775807) from rfl) q37 (by omega) (by omega) e1 ?_
                  refine zp_lsubx (n := (1 - v1)) (pc := 329) hx hb (zd_X12_reckonAll (329, .lsub, 1, 0, []) (List.mem_of_getElem? (i := 176) rfl)) rfl (zp_r1 (by omega) (by omega)) ?_
                  refine zp_last (j := d) (pc := 330) hx hb hw heff (zd_X12_reckonAll (330, .lastore, 1, 0, []) (List.mem_of_getElem? (i := 177) rfl)) (show zp_ia 2 77 = some (400, 1, 0, (-9223372036854775808), 9223372036854775807) from rfl) q37 (by omega) (by omega) rfl ?_
                  refine zp_goto (tgt := 368) (pc := 331) hx hb (zd_X12_reckonAll (331, .goto 37, 3, 0, []) (List.mem_of_getElem? (i := 178) rfl)) rfl ?_
                  refine zp_goto (tgt := 10) (pc := 368) hx hb (zd_X12_reckonAll (368, .goto (-358), 3, 0, []) (List.mem_of_getElem? (i := 197) rfl)) rfl ?_
                  refine zp_drop (L' := [(3, 0, ((d : Int) + 1)), (4, 0, ((b : Int) + 1)), (0, 2, (a : Int)), (1, 0, (i1 : Int)), (2, 0, (i2 : Int))]) (by simp) ?_
                  exact kk _ (zgO_b hm n37 n337 n2437 n2537 n3637) ((zp_set_ne (Or.inl n37)).trans h38) (fun j hj => zp_set_ne (Or.inr (by omega))) zp_set_self
              · exfalso
                omega
            · exfalso
              omega
  have step_br : ∀ (b d e9 : Nat) (v1 : Int) (G : Nat → Nat → Int), b < i2 → d < 400 → e9 ≤ 400 → zgO a b3 b24 b25 b36 b37 R Oc Oa Nw G → G a 38 = 0 → (Oc b = 29 ∨ Oc b = 30) → Oa b = (e9 : Int) → G b37 (2000 + d) = v1 → (v1 = (if Oc b = 29 then 0 else 1) → zp_J p l e Rm s m args below meth c Q w u [] 10 [(3, 0, ((d + 1 : Nat) : Int)), (4, 0, ((e9 : Nat) : Int)), (0, 2, (a : Int)), (1, 0, (i1 : Int)), (2, 0, (i2 : Int))] [] u.1 G) → (¬ v1 = (if Oc b = 29 then 0 else 1) → zp_J p l e Rm s m args below meth c Q w u [] 10 [(3, 0, ((d : Nat) : Int)), (4, 0, ((b + 1 : Nat) : Int)), (0, 2, (a : Int)), (1, 0, (i1 : Int)), (2, 0, (i2 : Int))] [] u.1 G) → zp_J p l e Rm s m args below meth c Q w u [] 10 [(3, 0, ((d + 1 : Nat) : Int)), (4, 0, ((b : Nat) : Int)), (0, 2, (a : Int)), (1, 0, (i1 : Int)), (2, 0, (i2 : Int))] [] u.1 G := by
    clear step_lf step_bn step_nt
    intro b d e9 v1 G hb2 hd he9 hm h38 o1 o2 e1 kj kn
    have ho4 : Oa b = (e9 : Int) := o2
    refine zp_drop (L' := [(3, 0, ((d : Int) + 1)), (4, 0, (b : Int)), (0, 2, (a : Int)), (1, 0, (i1 : Int)), (2, 0, (i2 : Int))]) (by simp <;> omega) ?_
    rcases o1 with o1 | o1
    · have ho3 : Oc b = 29 := o1
      rw [o1] at kj kn
      refine zp_load (pc := 10) hx hb (zd_X12_reckonAll (10, .iload 4, 2, 0, []) (List.mem_of_getElem? (i := 7) rfl)) rfl (j := 1) rfl ?_
      refine zp_load (pc := 12) hx hb (zd_X12_reckonAll (12, .iload_n 2, 1, 0, []) (List.mem_of_getElem? (i := 8) rfl)) rfl (j := 4) rfl ?_
      refine zp_icmp (pc := 13) (tgt := 371) hx hb (zd_X12_reckonAll (13, .if_icmp .ge 358, 3, 0, []) (List.mem_of_getElem? (i := 9) rfl)) rfl (fun (hc75 : (i2 : Int) ≤ (b : Int)) => ?_) (fun (hc75 : ¬ ((i2 : Int) ≤ (b : Int))) => ?_)
      · exfalso
        omega
      · refine zp_load (pc := 16) hx hb (zd_X12_reckonAll (16, .aload_n 0, 1, 0, []) (List.mem_of_getElem? (i := 10) rfl)) rfl (j := 2) rfl ?_
        refine zp_getf (n := 0) (pc := 17) hx hb hE hw (zd_X12_reckonAll (17, .getfield 388, 3, 0, []) (List.mem_of_getElem? (i := 11) rfl)) (j := 56) rfl rfl rfl hp h38 ?_
        refine zp_if (pc := 20) (tgt := 371) hx hb (zd_X12_reckonAll (20, .ifCond .ne 351, 3, 0, []) (List.mem_of_getElem? (i := 12) rfl)) rfl (fun (hc76 : ¬ 0 = 0) => ?_) (fun (hc76 : ¬ (¬ 0 = 0)) => ?_)
        · exfalso
          omega
        · refine zp_load (pc := 23) hx hb (zd_X12_reckonAll (23, .aload_n 0, 1, 0, []) (List.mem_of_getElem? (i := 13) rfl)) rfl (j := 2) rfl ?_
          refine zp_getf (n := 1) (pc := 24) hx hb hE hw (zd_X12_reckonAll (24, .getfield 319, 3, 0, []) (List.mem_of_getElem? (i := 14) rfl)) (j := 38) rfl rfl rfl hp hm.1 ?_
          refine zp_if (pc := 27) (tgt := 40) hx hb (zd_X12_reckonAll (27, .ifCond .eq 13, 3, 0, []) (List.mem_of_getElem? (i := 15) rfl)) rfl (fun (hc77 : 1 = 0) => ?_) (fun (hc77 : ¬ (1 = 0)) => ?_)
          · exfalso
            omega
          · refine zp_load (pc := 30) hx hb (zd_X12_reckonAll (30, .aload_n 0, 1, 0, []) (List.mem_of_getElem? (i := 16) rfl)) rfl (j := 2) rfl ?_
            refine zp_getf (n := (b24 : Int)) (pc := 31) hx hb hE hw (zd_X12_reckonAll (31, .getfield 45, 3, 0, []) (List.mem_of_getElem? (i := 17) rfl)) (j := 42) rfl rfl rfl hp hm.2.2.1 ?_
            refine zp_load (pc := 34) hx hb (zd_X12_reckonAll (34, .iload 4, 2, 0, []) (List.mem_of_getElem? (i := 18) rfl)) rfl (j := 1) rfl ?_
            refine zp_iald (j := b) (v := 29) (pc := 36) hx hb hw (zd_X12_reckonAll (36, .iaload, 1, 0, []) (List.mem_of_getElem? (i := 19) rfl)) (show zp_ia 1 68 = some (400, 0, 0, (-2147483648), 2147483647) from rfl) q24 (by omega) (by omega) ((hm.2.2.2.2.2.2.2.1 _).trans ho3) (fun hk78 => ?_)
            have hk78b := zp_int hk78
            refine zp_goto (tgt := 57) (pc := 37) hx hb (zd_X12_reckonAll (37, .goto 20, 3, 0, []) (List.mem_of_getElem? (i := 20) rfl)) rfl ?_
            refine zp_store (L' := [(5, 0, 29), (3, 0, ((d : Int) + 1)), (4, 0, (b : Int)), (0, 2, (a : Int)), (1, 0, (i1 : Int)), (2, 0, (i2 : Int))]) (pc := 57) hx hb hnL (zd_X12_reckonAll (57, .istore 5, 2, 0, []) (List.mem_of_getElem? (i := 32) rfl)) rfl rfl rfl ?_
            refine zp_load (pc := 59) hx hb (zd_X12_reckonAll (59, .aload_n 0, 1, 0, []) (List.mem_of_getElem? (i := 33) rfl)) rfl (j := 3) rfl ?_
            refine zp_getf (n := 1) (pc := 60) hx hb hE hw (zd_X12_reckonAll (60, .getfield 319, 3, 0, []) (List.mem_of_getElem? (i := 34) rfl)) (j := 38) rfl rfl rfl hp hm.1 ?_
            refine zp_if (pc := 63) (tgt := 76) hx hb (zd_X12_reckonAll (63, .ifCond .eq 13, 3, 0, []) (List.mem_of_getElem? (i := 35) rfl)) rfl (fun (hc79 : 1 = 0) => ?_) (fun (hc79 : ¬ (1 = 0)) => ?_)
            · exfalso
              omega
            · refine zp_load (pc := 66) hx hb (zd_X12_reckonAll (66, .aload_n 0, 1, 0, []) (List.mem_of_getElem? (i := 36) rfl)) rfl (j := 3) rfl ?_
              refine zp_getf (n := (b25 : Int)) (pc := 67) hx hb hE hw (zd_X12_reckonAll (67, .getfield 48, 3, 0, []) (List.mem_of_getElem? (i := 37) rfl)) (j := 43) rfl rfl rfl hp hm.2.2.2.1 ?_
              refine zp_load (pc := 70) hx hb (zd_X12_reckonAll (70, .iload 4, 2, 0, []) (List.mem_of_getElem? (i := 38) rfl)) rfl (j := 2) rfl ?_
              refine zp_iald (j := b) (v := (e9 : Int)) (pc := 72) hx hb hw (zd_X12_reckonAll (72, .iaload, 1, 0, []) (List.mem_of_getElem? (i := 39) rfl)) (show zp_ia 1 69 = some (400, 0, 0, (-2147483648), 2147483647) from rfl) q25 (by omega) (by omega) ((hm.2.2.2.2.2.2.2.2.1 _).trans ho4) (fun hk80 => ?_)
              have hk80b := zp_int hk80
              refine zp_goto (tgt := 95) (pc := 73) hx hb (zd_X12_reckonAll (73, .goto 22, 3, 0, []) (List.mem_of_getElem? (i := 40) rfl)) rfl ?_
              refine zp_store (L' := [(6, 0, (e9 : Int)), (5, 0, 29), (3, 0, ((d : Int) + 1)), (4, 0, (b : Int)), (0, 2, (a : Int)), (1, 0, (i1 : Int)), (2, 0, (i2 : Int))]) (pc := 95) hx hb hnL (zd_X12_reckonAll (95, .istore 6, 2, 0, []) (List.mem_of_getElem? (i := 54) rfl)) rfl rfl rfl ?_
              refine zp_iinc (L' := [(4, 0, ((b : Int) + 1)), (6, 0, (e9 : Int)), (5, 0, 29), (3, 0, ((d : Int) + 1)), (0, 2, (a : Int)), (1, 0, (i1 : Int)), (2, 0, (i2 : Int))]) (n := ((b : Int) + 1)) (pc := 97) hx hb hnL (zd_X12_reckonAll (97, .iinc 4 1, 3, 0, []) (List.mem_of_getElem? (i := 55) rfl)) (j := 3) rfl (by omega) (zp_r0 (by omega) (by omega)) rfl rfl ?_
              refine zp_load (pc := 100) hx hb (zd_X12_reckonAll (100, .iload 5, 2, 0, []) (List.mem_of_getElem? (i := 56) rfl)) rfl (j := 2) rfl ?_
              refine zp_const (pc := 102) hx hb (zd_X12_reckonAll (102, .bipush 20, 2, 0, []) (List.mem_of_getElem? (i := 57) rfl)) rfl rfl ?_
              refine zp_icmp (pc := 104) (tgt := 229) hx hb (zd_X12_reckonAll (104, .if_icmp .ge 125, 3, 0, []) (List.mem_of_getElem? (i := 58) rfl)) rfl (fun (hc81 : 20 ≤ 29) => ?_) (fun (hc81 : ¬ (20 ≤ 29)) => ?_)
              · refine zp_load (pc := 229) hx hb (zd_X12_reckonAll (229, .iload 5, 2, 0, []) (List.mem_of_getElem? (i := 119) rfl)) rfl (j := 2) rfl ?_
                refine zp_const (pc := 231) hx hb (zd_X12_reckonAll (231, .bipush 28, 2, 0, []) (List.mem_of_getElem? (i := 120) rfl)) rfl rfl ?_
                refine zp_icmp (pc := 233) (tgt := 306) hx hb (zd_X12_reckonAll (233, .if_icmp .ge 73, 3, 0, []) (List.mem_of_getElem? (i := 121) rfl)) rfl (fun (hc82 : 28 ≤ 29) => ?_) (fun (hc82 : ¬ (28 ≤ 29)) => ?_)
                · refine zp_load (pc := 306) hx hb (zd_X12_reckonAll (306, .iload 5, 2, 0, []) (List.mem_of_getElem? (i := 161) rfl)) rfl (j := 2) rfl ?_
                  refine zp_const (pc := 308) hx hb (zd_X12_reckonAll (308, .bipush 28, 2, 0, []) (List.mem_of_getElem? (i := 162) rfl)) rfl rfl ?_
                  refine zp_icmp (pc := 310) (tgt := 334) hx hb (zd_X12_reckonAll (310, .if_icmp .ne 24, 3, 0, []) (List.mem_of_getElem? (i := 163) rfl)) rfl (fun (hc83 : ¬ 29 = 28) => ?_) (fun (hc83 : ¬ (¬ 29 = 28)) => ?_)
                  · refine zp_load (pc := 334) hx hb (zd_X12_reckonAll (334, .aload_n 0, 1, 0, []) (List.mem_of_getElem? (i := 179) rfl)) rfl (j := 4) rfl ?_
                    refine zp_getf (n := (b37 : Int)) (pc := 335) hx hb hE hw (zd_X12_reckonAll (335, .getfield 107, 3, 0, []) (List.mem_of_getElem? (i := 180) rfl)) (j := 55) rfl rfl rfl hp hm.2.2.2.2.2.1 ?_
                    refine zp_load (pc := 338) hx hb (zd_X12_reckonAll (338, .iload_n 3, 1, 0, []) (List.mem_of_getElem? (i := 181) rfl)) rfl (j := 3) rfl ?_
                    refine zp_const (pc := 339) hx hb (zd_X12_reckonAll (339, .iconst 1, 1, 0, []) (List.mem_of_getElem? (i := 182) rfl)) rfl rfl ?_
                    refine zp_sub (n := (d : Int)) (pc := 340) hx hb (zd_X12_reckonAll (340, .isub, 1, 0, []) (List.mem_of_getElem? (i := 183) rfl)) (by omega) (zp_r0 (by omega) (by omega)) ?_
                    refine zp_lald (j := d) (v := v1) (pc := 341) hx hb hw (zd_X12_reckonAll (341, .laload, 1, 0, []) (List.mem_of_getElem? (i := 184) rfl)) (show zp_ia 2 77 = some (400, 1, 0, (-9223372036854775808), 9223372036854775807) from rfl) q37 (by omega) (by omega) e1 ?_
                    refine zp_load (pc := 342) hx hb (zd_X12_reckonAll (342, .iload 5, 2, 0, []) (List.mem_of_getElem? (i := 185) rfl)) rfl (j := 2) rfl ?_
                    refine zp_const (pc := 344) hx hb (zd_X12_reckonAll (344, .bipush 29, 2, 0, []) (List.mem_of_getElem? (i := 186) rfl)) rfl rfl ?_
                    refine zp_icmp (pc := 346) (tgt := 353) hx hb (zd_X12_reckonAll (346, .if_icmp .ne 7, 3, 0, []) (List.mem_of_getElem? (i := 187) rfl)) rfl (fun (hc85 : ¬ 29 = 29) => ?_) (fun (hc85 : ¬ (¬ 29 = 29)) => ?_)
                    · exfalso
                      omega
                    · refine zp_const (pc := 349) hx hb (zd_X12_reckonAll (349, .lconst 0, 1, 0, []) (List.mem_of_getElem? (i := 188) rfl)) rfl rfl ?_
                      refine zp_goto (tgt := 354) (pc := 350) hx hb (zd_X12_reckonAll (350, .goto 4, 3, 0, []) (List.mem_of_getElem? (i := 189) rfl)) rfl ?_
                      refine zp_lcmp (pc := 354) (tgt := 365) hx hb (zd_X12_reckonAll (354, .lcmp, 1, 0, []) (List.mem_of_getElem? (i := 191) rfl)) (zd_X12_reckonAll (355, .ifCond .ne 10, 3, 0, []) (List.mem_of_getElem? (i := 192) rfl)) rfl (fun (hc86 : ¬ v1 = 0) => ?_) (fun (hc86 : ¬ (¬ v1 = 0)) => ?_)
                      · refine zp_iinc (L' := [(3, 0, (d : Int)), (4, 0, ((b : Int) + 1)), (6, 0, (e9 : Int)), (5, 0, 29), (0, 2, (a : Int)), (1, 0, (i1 : Int)), (2, 0, (i2 : Int))]) (n := (d : Int)) (pc := 365) hx hb hnL (zd_X12_reckonAll (365, .iinc 3 (-1), 3, 0, []) (List.mem_of_getElem? (i := 196) rfl)) (j := 3) rfl (by omega) (zp_r0 (by omega) (by omega)) rfl rfl ?_
                        refine zp_goto (tgt := 10) (pc := 368) hx hb (zd_X12_reckonAll (368, .goto (-358), 3, 0, []) (List.mem_of_getElem? (i := 197) rfl)) rfl ?_
                        refine zp_drop (L' := [(3, 0, (d : Int)), (4, 0, ((b : Int) + 1)), (0, 2, (a : Int)), (1, 0, (i1 : Int)), (2, 0, (i2 : Int))]) (by simp) ?_
                        exact kn (by first | rw [if_pos rfl]; omega | rw [if_neg (by decide)]; omega)
                      · refine zp_load (pc := 358) hx hb (zd_X12_reckonAll (358, .iload 6, 2, 0, []) (List.mem_of_getElem? (i := 193) rfl)) rfl (j := 1) rfl ?_
                        refine zp_store (L' := [(4, 0, (e9 : Int)), (6, 0, (e9 : Int)), (5, 0, 29), (3, 0, ((d : Int) + 1)), (0, 2, (a : Int)), (1, 0, (i1 : Int)), (2, 0, (i2 : Int))]) (pc := 360) hx hb hnL (zd_X12_reckonAll (360, .istore 4, 2, 0, []) (List.mem_of_getElem? (i := 194) rfl)) rfl rfl rfl ?_
                        refine zp_goto (tgt := 368) (pc := 362) hx hb (zd_X12_reckonAll (362, .goto 6, 3, 0, []) (List.mem_of_getElem? (i := 195) rfl)) rfl ?_
                        refine zp_goto (tgt := 10) (pc := 368) hx hb (zd_X12_reckonAll (368, .goto (-358), 3, 0, []) (List.mem_of_getElem? (i := 197) rfl)) rfl ?_
                        refine zp_drop (L' := [(3, 0, ((d : Int) + 1)), (4, 0, (e9 : Int)), (0, 2, (a : Int)), (1, 0, (i1 : Int)), (2, 0, (i2 : Int))]) (by simp) ?_
                        exact kj (by first | rw [if_pos rfl]; omega | rw [if_neg (by decide)]; omega)
                  · exfalso
                    omega
                · exfalso
                  omega
              · exfalso
                omega
    · have ho3 : Oc b = 30 := o1
      rw [o1] at kj kn
      refine zp_load (pc := 10) hx hb (zd_X12_reckonAll (10, .iload 4, 2, 0, []) (List.mem_of_getElem? (i := 7) rfl)) rfl (j := 1) rfl ?_
      refine zp_load (pc := 12) hx hb (zd_X12_reckonAll (12, .iload_n 2, 1, 0, []) (List.mem_of_getElem? (i := 8) rfl)) rfl (j := 4) rfl ?_
      refine zp_icmp (pc := 13) (tgt := 371) hx hb (zd_X12_reckonAll (13, .if_icmp .ge 358, 3, 0, []) (List.mem_of_getElem? (i := 9) rfl)) rfl (fun (hc87 : (i2 : Int) ≤ (b : Int)) => ?_) (fun (hc87 : ¬ ((i2 : Int) ≤ (b : Int))) => ?_)
      · exfalso
        omega
      · refine zp_load (pc := 16) hx hb (zd_X12_reckonAll (16, .aload_n 0, 1, 0, []) (List.mem_of_getElem? (i := 10) rfl)) rfl (j := 2) rfl ?_
        refine zp_getf (n := 0) (pc := 17) hx hb hE hw (zd_X12_reckonAll (17, .getfield 388, 3, 0, []) (List.mem_of_getElem? (i := 11) rfl)) (j := 56) rfl rfl rfl hp h38 ?_
        refine zp_if (pc := 20) (tgt := 371) hx hb (zd_X12_reckonAll (20, .ifCond .ne 351, 3, 0, []) (List.mem_of_getElem? (i := 12) rfl)) rfl (fun (hc88 : ¬ 0 = 0) => ?_) (fun (hc88 : ¬ (¬ 0 = 0)) => ?_)
        · exfalso
          omega
        · refine zp_load (pc := 23) hx hb (zd_X12_reckonAll (23, .aload_n 0, 1, 0, []) (List.mem_of_getElem? (i := 13) rfl)) rfl (j := 2) rfl ?_
          refine zp_getf (n := 1) (pc := 24) hx hb hE hw (zd_X12_reckonAll (24, .getfield 319, 3, 0, []) (List.mem_of_getElem? (i := 14) rfl)) (j := 38) rfl rfl rfl hp hm.1 ?_
          refine zp_if (pc := 27) (tgt := 40) hx hb (zd_X12_reckonAll (27, .ifCond .eq 13, 3, 0, []) (List.mem_of_getElem? (i := 15) rfl)) rfl (fun (hc89 : 1 = 0) => ?_) (fun (hc89 : ¬ (1 = 0)) => ?_)
          · exfalso
            omega
          · refine zp_load (pc := 30) hx hb (zd_X12_reckonAll (30, .aload_n 0, 1, 0, []) (List.mem_of_getElem? (i := 16) rfl)) rfl (j := 2) rfl ?_
            refine zp_getf (n := (b24 : Int)) (pc := 31) hx hb hE hw (zd_X12_reckonAll (31, .getfield 45, 3, 0, []) (List.mem_of_getElem? (i := 17) rfl)) (j := 42) rfl rfl rfl hp hm.2.2.1 ?_
            refine zp_load (pc := 34) hx hb (zd_X12_reckonAll (34, .iload 4, 2, 0, []) (List.mem_of_getElem? (i := 18) rfl)) rfl (j := 1) rfl ?_
            refine zp_iald (j := b) (v := 30) (pc := 36) hx hb hw (zd_X12_reckonAll (36, .iaload, 1, 0, []) (List.mem_of_getElem? (i := 19) rfl)) (show zp_ia 1 68 = some (400, 0, 0, (-2147483648), 2147483647) from rfl) q24 (by omega) (by omega) ((hm.2.2.2.2.2.2.2.1 _).trans ho3) (fun hk90 => ?_)
            have hk90b := zp_int hk90
            refine zp_goto (tgt := 57) (pc := 37) hx hb (zd_X12_reckonAll (37, .goto 20, 3, 0, []) (List.mem_of_getElem? (i := 20) rfl)) rfl ?_
            refine zp_store (L' := [(5, 0, 30), (3, 0, ((d : Int) + 1)), (4, 0, (b : Int)), (0, 2, (a : Int)), (1, 0, (i1 : Int)), (2, 0, (i2 : Int))]) (pc := 57) hx hb hnL (zd_X12_reckonAll (57, .istore 5, 2, 0, []) (List.mem_of_getElem? (i := 32) rfl)) rfl rfl rfl ?_
            refine zp_load (pc := 59) hx hb (zd_X12_reckonAll (59, .aload_n 0, 1, 0, []) (List.mem_of_getElem? (i := 33) rfl)) rfl (j := 3) rfl ?_
            refine zp_getf (n := 1) (pc := 60) hx hb hE hw (zd_X12_reckonAll (60, .getfield 319, 3, 0, []) (List.mem_of_getElem? (i := 34) rfl)) (j := 38) rfl rfl rfl hp hm.1 ?_
            refine zp_if (pc := 63) (tgt := 76) hx hb (zd_X12_reckonAll (63, .ifCond .eq 13, 3, 0, []) (List.mem_of_getElem? (i := 35) rfl)) rfl (fun (hc91 : 1 = 0) => ?_) (fun (hc91 : ¬ (1 = 0)) => ?_)
            · exfalso
              omega
            · refine zp_load (pc := 66) hx hb (zd_X12_reckonAll (66, .aload_n 0, 1, 0, []) (List.mem_of_getElem? (i := 36) rfl)) rfl (j := 3) rfl ?_
              refine zp_getf (n := (b25 : Int)) (pc := 67) hx hb hE hw (zd_X12_reckonAll (67, .getfield 48, 3, 0, []) (List.mem_of_getElem? (i := 37) rfl)) (j := 43) rfl rfl rfl hp hm.2.2.2.1 ?_
              refine zp_load (pc := 70) hx hb (zd_X12_reckonAll (70, .iload 4, 2, 0, []) (List.mem_of_getElem? (i := 38) rfl)) rfl (j := 2) rfl ?_
              refine zp_iald (j := b) (v := (e9 : Int)) (pc := 72) hx hb hw (zd_X12_reckonAll (72, .iaload, 1, 0, []) (List.mem_of_getElem? (i := 39) rfl)) (show zp_ia 1 69 = some (400, 0, 0, (-2147483648), 2147483647) from rfl) q25 (by omega) (by omega) ((hm.2.2.2.2.2.2.2.2.1 _).trans ho4) (fun hk92 => ?_)
              have hk92b := zp_int hk92
              refine zp_goto (tgt := 95) (pc := 73) hx hb (zd_X12_reckonAll (73, .goto 22, 3, 0, []) (List.mem_of_getElem? (i := 40) rfl)) rfl ?_
              refine zp_store (L' := [(6, 0, (e9 : Int)), (5, 0, 30), (3, 0, ((d : Int) + 1)), (4, 0, (b : Int)), (0, 2, (a : Int)), (1, 0, (i1 : Int)), (2, 0, (i2 : Int))]) (pc := 95) hx hb hnL (zd_X12_reckonAll (95, .istore 6, 2, 0, []) (List.mem_of_getElem? (i := 54) rfl)) rfl rfl rfl ?_
              refine zp_iinc (L' := [(4, 0, ((b : Int) + 1)), (6, 0, (e9 : Int)), (5, 0, 30), (3, 0, ((d : Int) + 1)), (0, 2, (a : Int)), (1, 0, (i1 : Int)), (2, 0, (i2 : Int))]) (n := ((b : Int) + 1)) (pc := 97) hx hb hnL (zd_X12_reckonAll (97, .iinc 4 1, 3, 0, []) (List.mem_of_getElem? (i := 55) rfl)) (j := 3) rfl (by omega) (zp_r0 (by omega) (by omega)) rfl rfl ?_
              refine zp_load (pc := 100) hx hb (zd_X12_reckonAll (100, .iload 5, 2, 0, []) (List.mem_of_getElem? (i := 56) rfl)) rfl (j := 2) rfl ?_
              refine zp_const (pc := 102) hx hb (zd_X12_reckonAll (102, .bipush 20, 2, 0, []) (List.mem_of_getElem? (i := 57) rfl)) rfl rfl ?_
              refine zp_icmp (pc := 104) (tgt := 229) hx hb (zd_X12_reckonAll (104, .if_icmp .ge 125, 3, 0, []) (List.mem_of_getElem? (i := 58) rfl)) rfl (fun (hc93 : 20 ≤ 30) => ?_) (fun (hc93 : ¬ (20 ≤ 30)) => ?_)
              · refine zp_load (pc := 229) hx hb (zd_X12_reckonAll (229, .iload 5, 2, 0, []) (List.mem_of_getElem? (i := 119) rfl)) rfl (j := 2) rfl ?_
                refine zp_const (pc := 231) hx hb (zd_X12_reckonAll (231, .bipush 28, 2, 0, []) (List.mem_of_getElem? (i := 120) rfl)) rfl rfl ?_
                refine zp_icmp (pc := 233) (tgt := 306) hx hb (zd_X12_reckonAll (233, .if_icmp .ge 73, 3, 0, []) (List.mem_of_getElem? (i := 121) rfl)) rfl (fun (hc94 : 28 ≤ 30) => ?_) (fun (hc94 : ¬ (28 ≤ 30)) => ?_)
                · refine zp_load (pc := 306) hx hb (zd_X12_reckonAll (306, .iload 5, 2, 0, []) (List.mem_of_getElem? (i := 161) rfl)) rfl (j := 2) rfl ?_
                  refine zp_const (pc := 308) hx hb (zd_X12_reckonAll (308, .bipush 28, 2, 0, []) (List.mem_of_getElem? (i := 162) rfl)) rfl rfl ?_
                  refine zp_icmp (pc := 310) (tgt := 334) hx hb (zd_X12_reckonAll (310, .if_icmp .ne 24, 3, 0, []) (List.mem_of_getElem? (i := 163) rfl)) rfl (fun (hc95 : ¬ 30 = 28) => ?_) (fun (hc95 : ¬ (¬ 30 = 28)) => ?_)
                  · refine zp_load (pc := 334) hx hb (zd_X12_reckonAll (334, .aload_n 0, 1, 0, []) (List.mem_of_getElem? (i := 179) rfl)) rfl (j := 4) rfl ?_
                    refine zp_getf (n := (b37 : Int)) (pc := 335) hx hb hE hw (zd_X12_reckonAll (335, .getfield 107, 3, 0, []) (List.mem_of_getElem? (i := 180) rfl)) (j := 55) rfl rfl rfl hp hm.2.2.2.2.2.1 ?_
                    refine zp_load (pc := 338) hx hb (zd_X12_reckonAll (338, .iload_n 3, 1, 0, []) (List.mem_of_getElem? (i := 181) rfl)) rfl (j := 3) rfl ?_
                    refine zp_const (pc := 339) hx hb (zd_X12_reckonAll (339, .iconst 1, 1, 0, []) (List.mem_of_getElem? (i := 182) rfl)) rfl rfl ?_
                    refine zp_sub (n := (d : Int)) (pc := 340) hx hb (zd_X12_reckonAll (340, .isub, 1, 0, []) (List.mem_of_getElem? (i := 183) rfl)) (by omega) (zp_r0 (by omega) (by omega)) ?_
                    refine zp_lald (j := d) (v := v1) (pc := 341) hx hb hw (zd_X12_reckonAll (341, .laload, 1, 0, []) (List.mem_of_getElem? (i := 184) rfl)) (show zp_ia 2 77 = some (400, 1, 0, (-9223372036854775808), 9223372036854775807) from rfl) q37 (by omega) (by omega) e1 ?_
                    refine zp_load (pc := 342) hx hb (zd_X12_reckonAll (342, .iload 5, 2, 0, []) (List.mem_of_getElem? (i := 185) rfl)) rfl (j := 2) rfl ?_
                    refine zp_const (pc := 344) hx hb (zd_X12_reckonAll (344, .bipush 29, 2, 0, []) (List.mem_of_getElem? (i := 186) rfl)) rfl rfl ?_
                    refine zp_icmp (pc := 346) (tgt := 353) hx hb (zd_X12_reckonAll (346, .if_icmp .ne 7, 3, 0, []) (List.mem_of_getElem? (i := 187) rfl)) rfl (fun (hc97 : ¬ 30 = 29) => ?_) (fun (hc97 : ¬ (¬ 30 = 29)) => ?_)
                    · refine zp_const (pc := 353) hx hb (zd_X12_reckonAll (353, .lconst 1, 1, 0, []) (List.mem_of_getElem? (i := 190) rfl)) rfl rfl ?_
                      refine zp_lcmp (pc := 354) (tgt := 365) hx hb (zd_X12_reckonAll (354, .lcmp, 1, 0, []) (List.mem_of_getElem? (i := 191) rfl)) (zd_X12_reckonAll (355, .ifCond .ne 10, 3, 0, []) (List.mem_of_getElem? (i := 192) rfl)) rfl (fun (hc98 : ¬ v1 = 1) => ?_) (fun (hc98 : ¬ (¬ v1 = 1)) => ?_)
                      · refine zp_iinc (L' := [(3, 0, (d : Int)), (4, 0, ((b : Int) + 1)), (6, 0, (e9 : Int)), (5, 0, 30), (0, 2, (a : Int)), (1, 0, (i1 : Int)), (2, 0, (i2 : Int))]) (n := (d : Int)) (pc := 365) hx hb hnL (zd_X12_reckonAll (365, .iinc 3 (-1), 3, 0, []) (List.mem_of_getElem? (i := 196) rfl)) (j := 3) rfl (by omega) (zp_r0 (by omega) (by omega)) rfl rfl ?_
                        refine zp_goto (tgt := 10) (pc := 368) hx hb (zd_X12_reckonAll (368, .goto (-358), 3, 0, []) (List.mem_of_getElem? (i := 197) rfl)) rfl ?_
                        refine zp_drop (L' := [(3, 0, (d : Int)), (4, 0, ((b : Int) + 1)), (0, 2, (a : Int)), (1, 0, (i1 : Int)), (2, 0, (i2 : Int))]) (by simp) ?_
                        exact kn (by first | rw [if_pos rfl]; omega | rw [if_neg (by decide)]; omega)
                      · refine zp_load (pc := 358) hx hb (zd_X12_reckonAll (358, .iload 6, 2, 0, []) (List.mem_of_getElem? (i := 193) rfl)) rfl (j := 1) rfl ?_
                        refine zp_store (L' := [(4, 0, (e9 : Int)), (6, 0, (e9 : Int)), (5, 0, 30), (3, 0, ((d : Int) + 1)), (0, 2, (a : Int)), (1, 0, (i1 : Int)), (2, 0, (i2 : Int))]) (pc := 360) hx hb hnL (zd_X12_reckonAll (360, .istore 4, 2, 0, []) (List.mem_of_getElem? (i := 194) rfl)) rfl rfl rfl ?_
                        refine zp_goto (tgt := 368) (pc := 362) hx hb (zd_X12_reckonAll (362, .goto 6, 3, 0, []) (List.mem_of_getElem? (i := 195) rfl)) rfl ?_
                        refine zp_goto (tgt := 10) (pc := 368) hx hb (zd_X12_reckonAll (368, .goto (-358), 3, 0, []) (List.mem_of_getElem? (i := 197) rfl)) rfl ?_
                        refine zp_drop (L' := [(3, 0, ((d : Int) + 1)), (4, 0, (e9 : Int)), (0, 2, (a : Int)), (1, 0, (i1 : Int)), (2, 0, (i2 : Int))]) (by simp) ?_
                        exact kj (by first | rw [if_pos rfl]; omega | rw [if_neg (by decide)]; omega)
                    · exfalso
                      omega
                  · exfalso
                    omega
                · exfalso
                  omega
              · exfalso
                omega
  have exitv : ∀ (v1 : Int) (G : Nat → Nat → Int), zgO a b3 b24 b25 b36 b37 R Oc Oa Nw G → G a 38 = 0 → G b37 (2000 + 0) = v1 → -2147483648 ≤ v1 ∧ v1 ≤ 2147483647 → x (zo_en R Nw) = some v1 → zp_J p l e Rm s m args below meth c Q w u [] 10 [(3, 0, ((1 : Nat) : Int)), (4, 0, ((i2 : Nat) : Int)), (0, 2, (a : Int)), (1, 0, (i1 : Int)), (2, 0, (i2 : Int))] [] u.1 G := by
    clear step_lf step_bn step_nt step_br
    intro v1 G hm h38 e1 bd1 hxv
    refine zp_drop (L' := [(3, 0, 1), (4, 0, (i2 : Int)), (0, 2, (a : Int)), (1, 0, (i1 : Int)), (2, 0, (i2 : Int))]) (by simp) ?_
    refine zp_load (pc := 10) hx hb (zd_X12_reckonAll (10, .iload 4, 2, 0, []) (List.mem_of_getElem? (i := 7) rfl)) rfl (j := 1) rfl ?_
    refine zp_load (pc := 12) hx hb (zd_X12_reckonAll (12, .iload_n 2, 1, 0, []) (List.mem_of_getElem? (i := 8) rfl)) rfl (j := 4) rfl ?_
    refine zp_icmp (pc := 13) (tgt := 371) hx hb (zd_X12_reckonAll (13, .if_icmp .ge 358, 3, 0, []) (List.mem_of_getElem? (i := 9) rfl)) rfl (fun (hc99 : (i2 : Int) ≤ (i2 : Int)) => ?_) (fun (hc99 : ¬ ((i2 : Int) ≤ (i2 : Int))) => ?_)
    · refine zp_load (pc := 371) hx hb (zd_X12_reckonAll (371, .aload_n 0, 1, 0, []) (List.mem_of_getElem? (i := 198) rfl)) rfl (j := 2) rfl ?_
      refine zp_load (pc := 372) hx hb (zd_X12_reckonAll (372, .iload_n 3, 1, 0, []) (List.mem_of_getElem? (i := 199) rfl)) rfl (j := 0) rfl ?_
      refine zp_if (pc := 373) (tgt := 385) hx hb (zd_X12_reckonAll (373, .ifCond .le 12, 3, 0, []) (List.mem_of_getElem? (i := 200) rfl)) rfl (fun (hc100 : 1 ≤ 0) => ?_) (fun (hc100 : ¬ (1 ≤ 0)) => ?_)
      · exfalso
        omega
      · refine zp_load (pc := 376) hx hb (zd_X12_reckonAll (376, .aload_n 0, 1, 0, []) (List.mem_of_getElem? (i := 201) rfl)) rfl (j := 2) rfl ?_
        refine zp_getf (n := (b37 : Int)) (pc := 377) hx hb hE hw (zd_X12_reckonAll (377, .getfield 107, 3, 0, []) (List.mem_of_getElem? (i := 202) rfl)) (j := 55) rfl rfl rfl hp hm.2.2.2.2.2.1 ?_
        refine zp_const (pc := 380) hx hb (zd_X12_reckonAll (380, .iconst 0, 1, 0, []) (List.mem_of_getElem? (i := 203) rfl)) rfl rfl ?_
        refine zp_lald (j := 0) (v := v1) (pc := 381) hx hb hw (zd_X12_reckonAll (381, .laload, 1, 0, []) (List.mem_of_getElem? (i := 204) rfl)) (show zp_ia 2 77 = some (400, 1, 0, (-9223372036854775808), 9223372036854775807) from rfl) q37 (by omega) (by omega) e1 ?_
        refine zp_goto (tgt := 386) (pc := 382) hx hb (zd_X12_reckonAll (382, .goto 4, 3, 0, []) (List.mem_of_getElem? (i := 205) rfl)) rfl ?_
        refine zp_putf (pc := 386) hx hb hE hw heff (zd_X12_reckonAll (386, .putfield 402, 3, 0, []) (List.mem_of_getElem? (i := 207) rfl)) (j := 57) rfl rfl rfl hp (zp_o1 (by first | assumption | exact zp_r1 (by omega) (by omega))) ?_
        have ez0 : (zp_set G a 39 v1) a 38 = 0 := ((zp_set_ne (Or.inr (by decide))).trans (h38))
        have ez1 : (zp_set G a 39 v1) a 39 = v1 := zp_set_self
        refine zp_vret (pc := 389) hx hb hE hQ hU5 rfl (by decide) (zd_X12_reckonAll (389, .return_, 1, 0, []) (List.mem_of_getElem? (i := 208) rfl)) (j := 0) rfl ?_
        rw [hps]
        refine ⟨rfl, ?_⟩
        show (∀ v, x (zo_en R Nw) = some v → (-2147483648 ≤ v ∧ v ≤ 2147483647) ∧ (zp_set G a 39 v1) a 38 = 0 ∧ (zp_set G a 39 v1) a 39 = v) ∧ (x (zo_en R Nw) = none → (zp_set G a 39 v1) a 38 = 1)
        exact ⟨fun v hv => by
          rw [hxv] at hv
          obtain rfl := Option.some.inj hv
          exact ⟨bd1, ez0, ez1⟩, fun hv => by
          rw [hxv] at hv
          cases hv⟩
    · exfalso
      omega
  have exitb : ∀ (d b : Nat) (G : Nat → Nat → Int), b ≤ 400 → d ≤ 400 → zgO a b3 b24 b25 b36 b37 R Oc Oa Nw G → G a 38 = 1 → x (zo_en R Nw) = none → zp_J p l e Rm s m args below meth c Q w u [] 10 [(3, 0, ((d : Nat) : Int)), (4, 0, ((b : Nat) : Int)), (0, 2, (a : Int)), (1, 0, (i1 : Int)), (2, 0, (i2 : Int))] [] u.1 G := by
    clear step_lf step_bn step_nt step_br exitv
    intro d b G hb4 hd4 hm h38 hxv
    refine zp_drop (L' := [(3, 0, (d : Int)), (4, 0, (b : Int)), (0, 2, (a : Int)), (1, 0, (i1 : Int)), (2, 0, (i2 : Int))]) (by simp) ?_
    refine zp_load (pc := 10) hx hb (zd_X12_reckonAll (10, .iload 4, 2, 0, []) (List.mem_of_getElem? (i := 7) rfl)) rfl (j := 1) rfl ?_
    refine zp_load (pc := 12) hx hb (zd_X12_reckonAll (12, .iload_n 2, 1, 0, []) (List.mem_of_getElem? (i := 8) rfl)) rfl (j := 4) rfl ?_
    refine zp_icmp (pc := 13) (tgt := 371) hx hb (zd_X12_reckonAll (13, .if_icmp .ge 358, 3, 0, []) (List.mem_of_getElem? (i := 9) rfl)) rfl (fun (hc102 : (i2 : Int) ≤ (b : Int)) => ?_) (fun (hc102 : ¬ ((i2 : Int) ≤ (b : Int))) => ?_)
    · refine zp_load (pc := 371) hx hb (zd_X12_reckonAll (371, .aload_n 0, 1, 0, []) (List.mem_of_getElem? (i := 198) rfl)) rfl (j := 2) rfl ?_
      refine zp_load (pc := 372) hx hb (zd_X12_reckonAll (372, .iload_n 3, 1, 0, []) (List.mem_of_getElem? (i := 199) rfl)) rfl (j := 0) rfl ?_
      refine zp_if (pc := 373) (tgt := 385) hx hb (zd_X12_reckonAll (373, .ifCond .le 12, 3, 0, []) (List.mem_of_getElem? (i := 200) rfl)) rfl (fun (hc103 : (d : Int) ≤ 0) => ?_) (fun (hc103 : ¬ ((d : Int) ≤ 0)) => ?_)
      · refine zp_const (pc := 385) hx hb (zd_X12_reckonAll (385, .lconst 0, 1, 0, []) (List.mem_of_getElem? (i := 206) rfl)) rfl rfl ?_
        refine zp_putf (pc := 386) hx hb hE hw heff (zd_X12_reckonAll (386, .putfield 402, 3, 0, []) (List.mem_of_getElem? (i := 207) rfl)) (j := 57) rfl rfl rfl hp (zp_o1 ⟨by decide, by decide⟩) ?_
        have ez0 : (zp_set G a 39 0) a 38 = 1 := ((zp_set_ne (Or.inr (by decide))).trans (h38))
        refine zp_vret (pc := 389) hx hb hE hQ hU5 rfl (by decide) (zd_X12_reckonAll (389, .return_, 1, 0, []) (List.mem_of_getElem? (i := 208) rfl)) (j := 0) rfl ?_
        rw [hps]
        refine ⟨rfl, ?_⟩
        show (∀ v, x (zo_en R Nw) = some v → (-2147483648 ≤ v ∧ v ≤ 2147483647) ∧ (zp_set G a 39 0) a 38 = 0 ∧ (zp_set G a 39 0) a 39 = v) ∧ (x (zo_en R Nw) = none → (zp_set G a 39 0) a 38 = 1)
        exact ⟨fun v hv => (by rw [hxv] at hv; cases hv), fun _ => ez0⟩
      · refine zp_load (pc := 376) hx hb (zd_X12_reckonAll (376, .aload_n 0, 1, 0, []) (List.mem_of_getElem? (i := 201) rfl)) rfl (j := 2) rfl ?_
        refine zp_getf (n := (b37 : Int)) (pc := 377) hx hb hE hw (zd_X12_reckonAll (377, .getfield 107, 3, 0, []) (List.mem_of_getElem? (i := 202) rfl)) (j := 55) rfl rfl rfl hp hm.2.2.2.2.2.1 ?_
        refine zp_const (pc := 380) hx hb (zd_X12_reckonAll (380, .iconst 0, 1, 0, []) (List.mem_of_getElem? (i := 203) rfl)) rfl rfl ?_
        refine zp_lald (j := 0) (v := (G b37 (2000 + 0))) (pc := 381) hx hb hw (zd_X12_reckonAll (381, .laload, 1, 0, []) (List.mem_of_getElem? (i := 204) rfl)) (show zp_ia 2 77 = some (400, 1, 0, (-9223372036854775808), 9223372036854775807) from rfl) q37 (by omega) (by omega) rfl ?_
        refine zp_skx (fun hk104 => ?_)
        have hk104b : zk_rg 1 (G b37 (2000 + 0)) := hk104.2.1
        refine zp_goto (tgt := 386) (pc := 382) hx hb (zd_X12_reckonAll (382, .goto 4, 3, 0, []) (List.mem_of_getElem? (i := 205) rfl)) rfl ?_
        refine zp_putf (pc := 386) hx hb hE hw heff (zd_X12_reckonAll (386, .putfield 402, 3, 0, []) (List.mem_of_getElem? (i := 207) rfl)) (j := 57) rfl rfl rfl hp (zp_o1 (by first | assumption | exact zp_r1 (by omega) (by omega))) ?_
        have ez0 : (zp_set G a 39 (G b37 (2000 + 0))) a 38 = 1 := ((zp_set_ne (Or.inr (by decide))).trans (h38))
        refine zp_vret (pc := 389) hx hb hE hQ hU5 rfl (by decide) (zd_X12_reckonAll (389, .return_, 1, 0, []) (List.mem_of_getElem? (i := 208) rfl)) (j := 0) rfl ?_
        rw [hps]
        refine ⟨rfl, ?_⟩
        show (∀ v, x (zo_en R Nw) = some v → (-2147483648 ≤ v ∧ v ≤ 2147483647) ∧ (zp_set G a 39 (G b37 (2000 + 0))) a 38 = 0 ∧ (zp_set G a 39 (G b37 (2000 + 0))) a 39 = v) ∧ (x (zo_en R Nw) = none → (zp_set G a 39 (G b37 (2000 + 0))) a 38 = 1)
        exact ⟨fun v hv => (by rw [hxv] at hv; cases hv), fun _ => ez0⟩
    · refine zp_load (pc := 16) hx hb (zd_X12_reckonAll (16, .aload_n 0, 1, 0, []) (List.mem_of_getElem? (i := 10) rfl)) rfl (j := 2) rfl ?_
      refine zp_getf (n := 1) (pc := 17) hx hb hE hw (zd_X12_reckonAll (17, .getfield 388, 3, 0, []) (List.mem_of_getElem? (i := 11) rfl)) (j := 56) rfl rfl rfl hp h38 ?_
      refine zp_if (pc := 20) (tgt := 371) hx hb (zd_X12_reckonAll (20, .ifCond .ne 351, 3, 0, []) (List.mem_of_getElem? (i := 12) rfl)) rfl (fun (hc105 : ¬ 1 = 0) => ?_) (fun (hc105 : ¬ (¬ 1 = 0)) => ?_)
      · refine zp_load (pc := 371) hx hb (zd_X12_reckonAll (371, .aload_n 0, 1, 0, []) (List.mem_of_getElem? (i := 198) rfl)) rfl (j := 2) rfl ?_
        refine zp_load (pc := 372) hx hb (zd_X12_reckonAll (372, .iload_n 3, 1, 0, []) (List.mem_of_getElem? (i := 199) rfl)) rfl (j := 0) rfl ?_
        refine zp_if (pc := 373) (tgt := 385) hx hb (zd_X12_reckonAll (373, .ifCond .le 12, 3, 0, []) (List.mem_of_getElem? (i := 200) rfl)) rfl (fun (hc106 : (d : Int) ≤ 0) => ?_) (fun (hc106 : ¬ ((d : Int) ≤ 0)) => ?_)
        · refine zp_const (pc := 385) hx hb (zd_X12_reckonAll (385, .lconst 0, 1, 0, []) (List.mem_of_getElem? (i := 206) rfl)) rfl rfl ?_
          refine zp_putf (pc := 386) hx hb hE hw heff (zd_X12_reckonAll (386, .putfield 402, 3, 0, []) (List.mem_of_getElem? (i := 207) rfl)) (j := 57) rfl rfl rfl hp (zp_o1 ⟨by decide, by decide⟩) ?_
          have ez0 : (zp_set G a 39 0) a 38 = 1 := ((zp_set_ne (Or.inr (by decide))).trans (h38))
          refine zp_vret (pc := 389) hx hb hE hQ hU5 rfl (by decide) (zd_X12_reckonAll (389, .return_, 1, 0, []) (List.mem_of_getElem? (i := 208) rfl)) (j := 0) rfl ?_
          rw [hps]
          refine ⟨rfl, ?_⟩
          show (∀ v, x (zo_en R Nw) = some v → (-2147483648 ≤ v ∧ v ≤ 2147483647) ∧ (zp_set G a 39 0) a 38 = 0 ∧ (zp_set G a 39 0) a 39 = v) ∧ (x (zo_en R Nw) = none → (zp_set G a 39 0) a 38 = 1)
          exact ⟨fun v hv => (by rw [hxv] at hv; cases hv), fun _ => ez0⟩
        · refine zp_load (pc := 376) hx hb (zd_X12_reckonAll (376, .aload_n 0, 1, 0, []) (List.mem_of_getElem? (i := 201) rfl)) rfl (j := 2) rfl ?_
          refine zp_getf (n := (b37 : Int)) (pc := 377) hx hb hE hw (zd_X12_reckonAll (377, .getfield 107, 3, 0, []) (List.mem_of_getElem? (i := 202) rfl)) (j := 55) rfl rfl rfl hp hm.2.2.2.2.2.1 ?_
          refine zp_const (pc := 380) hx hb (zd_X12_reckonAll (380, .iconst 0, 1, 0, []) (List.mem_of_getElem? (i := 203) rfl)) rfl rfl ?_
          refine zp_lald (j := 0) (v := (G b37 (2000 + 0))) (pc := 381) hx hb hw (zd_X12_reckonAll (381, .laload, 1, 0, []) (List.mem_of_getElem? (i := 204) rfl)) (show zp_ia 2 77 = some (400, 1, 0, (-9223372036854775808), 9223372036854775807) from rfl) q37 (by omega) (by omega) rfl ?_
          refine zp_skx (fun hk107 => ?_)
          have hk107b : zk_rg 1 (G b37 (2000 + 0)) := hk107.2.1
          refine zp_goto (tgt := 386) (pc := 382) hx hb (zd_X12_reckonAll (382, .goto 4, 3, 0, []) (List.mem_of_getElem? (i := 205) rfl)) rfl ?_
          refine zp_putf (pc := 386) hx hb hE hw heff (zd_X12_reckonAll (386, .putfield 402, 3, 0, []) (List.mem_of_getElem? (i := 207) rfl)) (j := 57) rfl rfl rfl hp (zp_o1 (by first | assumption | exact zp_r1 (by omega) (by omega))) ?_
          have ez0 : (zp_set G a 39 (G b37 (2000 + 0))) a 38 = 1 := ((zp_set_ne (Or.inr (by decide))).trans (h38))
          refine zp_vret (pc := 389) hx hb hE hQ hU5 rfl (by decide) (zd_X12_reckonAll (389, .return_, 1, 0, []) (List.mem_of_getElem? (i := 208) rfl)) (j := 0) rfl ?_
          rw [hps]
          refine ⟨rfl, ?_⟩
          show (∀ v, x (zo_en R Nw) = some v → (-2147483648 ≤ v ∧ v ≤ 2147483647) ∧ (zp_set G a 39 (G b37 (2000 + 0))) a 38 = 0 ∧ (zp_set G a 39 (G b37 (2000 + 0))) a 39 = v) ∧ (x (zo_en R Nw) = none → (zp_set G a 39 (G b37 (2000 + 0))) a 38 = 1)
          exact ⟨fun v hv => (by rw [hxv] at hv; cases hv), fun _ => ez0⟩
      · exfalso
        omega
  have run : ∀ (f b e9 k9 : Nat) (y : yD), yE Oc Oa f b e9 k9 y → e9 ≤ i2 → ∀ (d : Nat) (S : Nat → Int) (G : Nat → Nat → Int), d + k9 ≤ 400 → (∀ j, j < d → -2147483648 ≤ S j ∧ S j ≤ 2147483647) → zgO a b3 b24 b25 b36 b37 R Oc Oa Nw G → G a 38 = 0 → (∀ j, j < d → G b37 (2000 + j) = S j) → (∀ (v : Int) (G' : Nat → Nat → Int), y (zo_en R Nw) = some v → -2147483648 ≤ v ∧ v ≤ 2147483647 → zgO a b3 b24 b25 b36 b37 R Oc Oa Nw G' → G' a 38 = 0 → (∀ j, j < d → G' b37 (2000 + j) = S j) → G' b37 (2000 + d) = v → zp_J p l e Rm s m args below meth c Q w u [] 10 [(3, 0, ((d + 1 : Nat) : Int)), (4, 0, ((e9 : Nat) : Int)), (0, 2, (a : Int)), (1, 0, (i1 : Int)), (2, 0, (i2 : Int))] [] u.1 G') → (∀ (d9 b9 : Nat) (G' : Nat → Nat → Int), y (zo_en R Nw) = none → d9 ≤ 400 → b9 ≤ 400 → zgO a b3 b24 b25 b36 b37 R Oc Oa Nw G' → G' a 38 = 1 → zp_J p l e Rm s m args below meth c Q w u [] 10 [(3, 0, ((d9 : Nat) : Int)), (4, 0, ((b9 : Nat) : Int)), (0, 2, (a : Int)), (1, 0, (i1 : Int)), (2, 0, (i2 : Int))] [] u.1 G') → zp_J p l e Rm s m args below meth c Q w u [] 10 [(3, 0, ((d : Nat) : Int)), (4, 0, ((b : Nat) : Int)), (0, 2, (a : Int)), (1, 0, (i1 : Int)), (2, 0, (i2 : Int))] [] u.1 G := by
    clear exitv exitb
    intro f
    induction f with
    | zero => intro b e9 k9 y h; exact h.elim
    | succ f ih =>
      intro b e9 k9 y h he9 d S G hd hS hm h38 hst kv kb
      have hlt := yE_lt h
      rcases h with ⟨g1, g2, g3, g4, g5⟩ | ⟨m9, e1, k1, k2, y1, y2, g1, g2, g3, g4, g5, g6, g7⟩ | ⟨e1, y1, g1, g2, g3, g4, g5⟩ | ⟨m9, k1, k2, y1, y2, g1, g2, g3, g4, g5, g6, g7⟩ | ⟨m9, k1, k2, y1, y2, g1, g2, g3, g4, g5, g6, g7⟩
      · subst g1
        refine step_lf b d G (by omega) (by omega) hm h38 g3 g4 (fun G' m' h' s' t' => ?_)
        have hv : y (zo_en R Nw) = some (zo_en R Nw (Oc b) (Oa b)) := by rw [g5]; rfl
        refine kv _ G' hv ?_ m' h' (fun j hj => (s' j hj).trans (hst j hj)) t'
        exact zo_enb hR hrb hSt g3 (hOa b (by omega))
      · have l1 := yE_lt g2
        have l2 := yE_lt g3
        subst g1
        refine ih b m9 k1 y1 g2 (by omega) d S G (by omega) hS hm h38 hst (fun v1 G1 c1 c2 m1 c3 c4 c5 => ?_) (fun d9 b9 G' c1 c2 c3 m' c4 => ?_)
        · refine ih m9 e1 k2 y2 g3 (by omega) (d + 1) (fun j => if j = d then v1 else S j) G1 (by omega) (fun j hj => ?_) m1 c3 (fun j hj => ?_) (fun v2 G2 b1 b2 m2 b3' b4 b5 => ?_) (fun d9 b9 G' b1 b2 b3' m' b4 => ?_)
          · by_cases hjd : j = d
            · rw [if_pos hjd]
              exact c2
            · rw [if_neg hjd]
              exact hS j (by omega)
          · by_cases hjd : j = d
            · rw [if_pos hjd, hjd]
              exact c5
            · rw [if_neg hjd]
              exact c4 j (by omega)
          · have s4 : ∀ j, j < d → G2 b37 (2000 + j) = S j := fun j hj => (b4 j (by omega)).trans (if_neg (by omega))
            have s5 : G2 b37 (2000 + d) = v1 := (b4 d (by omega)).trans (if_pos rfl)
            have hb9 : ∀ r, yd_bn (Oc e1) v1 v2 = r → y (zo_en R Nw) = r := fun r hr => by
              rw [g7]
              show ((y1 (zo_en R Nw)).bind fun a => (y2 (zo_en R Nw)).bind fun b => yd_bn (Oc e1) a b) = r
              rw [c1, b1]
              exact hr
            refine step_bn e1 d v1 v2 G2 (by omega) (by omega) m2 b3' g4 g5 s5 b5 c2 b2 (fun v G' a1 a2 a3 a4 a5 => ?_) (fun G' a1 a2 a3 => ?_)
            · exact kv v G' (hb9 _ a1) (by have := zg_bnr a1; omega) a2 a3 (fun j hj => (a4 j hj).trans (s4 j hj)) a5
            · exact kb (d + 1) (e1 + 1) G' (hb9 _ a1) (by omega) (by omega) a2 a3
          · refine kb d9 b9 G' ?_ b2 b3' m' b4
            rw [g7]
            show ((y1 (zo_en R Nw)).bind fun a => (y2 (zo_en R Nw)).bind fun b => yd_bn (Oc e1) a b) = none
            rw [c1, b1]
            rfl
        · refine kb d9 b9 G' ?_ c2 c3 m' c4
          rw [g7]
          show ((y1 (zo_en R Nw)).bind fun a => (y2 (zo_en R Nw)).bind fun b => yd_bn (Oc e1) a b) = none
          rw [c1]
          rfl
      · have l1 := yE_lt g2
        subst g1
        refine ih b e1 k9 y1 g2 (by omega) d S G (by omega) hS hm h38 hst (fun v1 G1 c1 c2 m1 c3 c4 c5 => ?_) (fun d9 b9 G' c1 c2 c3 m' c4 => ?_)
        · refine step_nt e1 d v1 G1 (by omega) (by omega) m1 c3 g3 c5 c2 (fun G' a1 a2 a3 a4 => ?_)
          have ht := g4 (zo_en R Nw) v1 c1
          refine kv (1 - v1) G' ?_ (by omega) a1 a2 (fun j hj => (a3 j hj).trans (c4 j hj)) a4
          rw [g5]
          show ((y1 (zo_en R Nw)).bind fun v => some (1 - v)) = _
          rw [c1]
          rfl
        · refine kb d9 b9 G' ?_ c2 c3 m' c4
          rw [g5]
          show ((y1 (zo_en R Nw)).bind fun v => some (1 - v)) = _
          rw [c1]
          rfl
      · have l1 := yE_lt g1
        have l2 := yE_lt g4
        refine ih b m9 k1 y1 g1 (by omega) d S G (by omega) hS hm h38 hst (fun v1 G1 c1 c2 m1 c3 c4 c5 => ?_) (fun d9 b9 G' c1 c2 c3 m' c4 => ?_)
        · have hb9 : y (zo_en R Nw) = if v1 = 0 then some 0 else y2 (zo_en R Nw) := by
            rw [g7]
            show ((y1 (zo_en R Nw)).bind fun v => if v = 0 then some 0 else y2 (zo_en R Nw)) = _
            rw [c1]
            rfl
          refine step_br m9 d e9 v1 G1 (by omega) (by omega) (by omega) m1 c3 (Or.inl g2) g3 c5 (fun hv => ?_) (fun hv => ?_)
          · rw [g2] at hv
            have hv : v1 = 0 := hv
            refine kv v1 G1 ?_ c2 m1 c3 c4 c5
            rw [hb9, if_pos hv, hv]
          · rw [g2] at hv
            have hv : ¬ v1 = 0 := hv
            rw [if_neg hv] at hb9
            refine ih (m9 + 1) e9 k2 y2 g4 he9 d S G1 (by omega) hS m1 c3 c4 (fun v G' a1 a2 a3 a4 a5 a6 => kv v G' (hb9.trans a1) a2 a3 a4 a5 a6) (fun d9 b9 G' a1 a2 a3 a4 a5 => kb d9 b9 G' (hb9.trans a1) a2 a3 a4 a5)
        · refine kb d9 b9 G' ?_ c2 c3 m' c4
          rw [g7]
          show ((y1 (zo_en R Nw)).bind fun v => if v = 0 then some 0 else y2 (zo_en R Nw)) = none
          rw [c1]
          rfl
      · have l1 := yE_lt g1
        have l2 := yE_lt g4
        refine ih b m9 k1 y1 g1 (by omega) d S G (by omega) hS hm h38 hst (fun v1 G1 c1 c2 m1 c3 c4 c5 => ?_) (fun d9 b9 G' c1 c2 c3 m' c4 => ?_)
        · have hb9 : y (zo_en R Nw) = if v1 = 1 then some 1 else y2 (zo_en R Nw) := by
            rw [g7]
            show ((y1 (zo_en R Nw)).bind fun v => if v = 1 then some 1 else y2 (zo_en R Nw)) = _
            rw [c1]
            rfl
          refine step_br m9 d e9 v1 G1 (by omega) (by omega) (by omega) m1 c3 (Or.inr g2) g3 c5 (fun hv => ?_) (fun hv => ?_)
          · rw [g2] at hv
            have hv : v1 = 1 := hv
            refine kv v1 G1 ?_ c2 m1 c3 c4 c5
            rw [hb9, if_pos hv, hv]
          · rw [g2] at hv
            have hv : ¬ v1 = 1 := hv
            rw [if_neg hv] at hb9
            refine ih (m9 + 1) e9 k2 y2 g4 he9 d S G1 (by omega) hS m1 c3 c4 (fun v G' a1 a2 a3 a4 a5 a6 => kv v G' (hb9.trans a1) a2 a3 a4 a5 a6) (fun d9 b9 G' a1 a2 a3 a4 a5 => kb d9 b9 G' (hb9.trans a1) a2 a3 a4 a5)
        · refine kb d9 b9 G' ?_ c2 c3 m' c4
          rw [g7]
          show ((y1 (zo_en R Nw)).bind fun v => if v = 1 then some 1 else y2 (zo_en R Nw)) = none
          rw [c1]
          rfl
  have hl0 := yE_lt hE0
  show zp_J p l e Rm s m args below meth c Q w u [] 0 [(0, 2, (a : Int)), (1, 0, (i1 : Int)), (2, 0, (i2 : Int))] [] u.1 (zp_n u.2.1)
  refine zp_load (pc := 0) hx hb (zd_X12_reckonAll (0, .aload_n 0, 1, 0, []) (List.mem_of_getElem? (i := 0) rfl)) rfl (j := 0) rfl ?_
  refine zp_const (pc := 1) hx hb (zd_X12_reckonAll (1, .iconst 0, 1, 0, []) (List.mem_of_getElem? (i := 1) rfl)) rfl rfl ?_
  refine zp_putf (pc := 2) hx hb hE hw heff (zd_X12_reckonAll (2, .putfield 388, 3, 0, []) (List.mem_of_getElem? (i := 2) rfl)) (j := 56) rfl rfl rfl hp (zp_o0 (by decide) (by decide) (by decide) (by decide)) ?_
  refine zp_const (pc := 5) hx hb (zd_X12_reckonAll (5, .iconst 0, 1, 0, []) (List.mem_of_getElem? (i := 3) rfl)) rfl rfl ?_
  refine zp_store (L' := [(3, 0, 0), (0, 2, (a : Int)), (1, 0, (i1 : Int)), (2, 0, (i2 : Int))]) (pc := 6) hx hb hnL (zd_X12_reckonAll (6, .istore_n 3, 1, 0, []) (List.mem_of_getElem? (i := 4) rfl)) rfl rfl rfl ?_
  refine zp_load (pc := 7) hx hb (zd_X12_reckonAll (7, .iload_n 1, 1, 0, []) (List.mem_of_getElem? (i := 5) rfl)) rfl (j := 2) rfl ?_
  refine zp_store (L' := [(4, 0, (i1 : Int)), (3, 0, 0), (0, 2, (a : Int)), (1, 0, (i1 : Int)), (2, 0, (i2 : Int))]) (pc := 8) hx hb hnL (zd_X12_reckonAll (8, .istore 4, 2, 0, []) (List.mem_of_getElem? (i := 6) rfl)) rfl rfl rfl ?_
  refine zp_drop (L' := [(3, 0, 0), (4, 0, (i1 : Int)), (0, 2, (a : Int)), (1, 0, (i1 : Int)), (2, 0, (i2 : Int))]) (by simp) ?_
  refine run f i1 i2 k x hE0 (Nat.le_refl _) 0 (fun _ => 0) _ (by omega) (fun j hj => absurd hj (Nat.not_lt_zero j)) (zgO_a hm0 n3 n24 n25 n36 (Or.inl rfl)) zp_set_self (fun j hj => absurd hj (Nat.not_lt_zero j)) (fun v G' c1 c2 c3 c4 _ c6 => ?_) (fun d9 b9 G' c1 c2 c3 c4 c5 => exitb d9 b9 G' c3 c2 c4 c5 c1)
  exact exitv v G' c3 c4 c6 c2 c1
