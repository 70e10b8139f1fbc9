/-! part g1: the reference: reckon, exactly -/
theorem zg_v20 (a b : Int) : a + b = yd_v 20 a b := rfl
theorem zg_v21 (a b : Int) : a - b = yd_v 21 a b := rfl
theorem zg_v22 (a b : Int) : a * b = yd_v 22 a b := rfl
theorem zg_v25 (a b : Int) : (a < b → (1 : Int) = yd_v 25 a b) ∧ (¬ (a < b) → (0 : Int) = yd_v 25 a b) := ⟨fun h => (if_pos h).symm, fun h => (if_neg h).symm⟩
theorem zg_v26 (a b : Int) : (b < a → (1 : Int) = yd_v 26 a b) ∧ (¬ (b < a) → (0 : Int) = yd_v 26 a b) := ⟨fun h => (if_pos h).symm, fun h => (if_neg h).symm⟩
theorem zg_v27 (a b : Int) : (a = b → (1 : Int) = yd_v 27 a b) ∧ (¬ (a = b) → (0 : Int) = yd_v 27 a b) := ⟨fun h => (if_pos h).symm, fun h => (if_neg h).symm⟩
noncomputable def zK_rk0 : zk_K := (zt_mn 244, prog_14_method_64_code, 6, (Option.some Jvm.ClassFile.FieldType.long), 1, 12, [(2, 13, 0, 0), (0, 0, 20, 27), (1, 0, (-9223372036854775808), 9223372036854775807), (1, 0, (-9223372036854775808), 9223372036854775807)], [(some (1, 0, (-9223372036854775808), 9223372036854775807), [])], [(13, 38, 0)], (0, 0, 0, 0))
noncomputable def zφ_rk0 : (Nat → Option Nat) → (Nat → Nat → Int) → List Int → Prop := fun P G ps => (-2147483648 ≤ (ps.getD 2 0) ∧ (ps.getD 2 0) ≤ 2147483648) ∧ (-2147483648 ≤ (ps.getD 3 0) ∧ (ps.getD 3 0) ≤ 2147483648)
noncomputable def zψ_rk0 : (Nat → Option Nat) → (Nat → Nat → Int) → List Int → (Nat → Option Nat) → (Nat → Nat → Int) → Int → Prop := fun P G ps P' G' rn => P' = P ∧ (((ps.getD 1 0) = 23 ∨ (ps.getD 1 0) = 24) ∧ (ps.getD 3 0) = 0 → G' (zp_0 ps) 38 = 1 ∧ rn = 0) ∧ (¬ (((ps.getD 1 0) = 23 ∨ (ps.getD 1 0) = 24) ∧ (ps.getD 3 0) = 0) → rn = yd_v (ps.getD 1 0) (ps.getD 2 0) (ps.getD 3 0) ∧ G' (zp_0 ps) 38 = if (ps.getD 1 0) = 23 ∨ (ps.getD 1 0) = 24 then 0 else G (zp_0 ps) 38)
theorem zX_rk0 {l : Launch} {w : zk_W} (hW : zh_W w) : zk_metX l w zt_dv zt_TB zK_rk0 (zp_A zφ_rk0) (zp_B zψ_rk0) ∧ zk_cok w zt_TB zK_rk0 := by
  refine zp_methX (cn := "WoundTownModel") zp_lkall hW (pl := 1825) rfl (by decide +kernel) (fun p e R s m args below meth c Q u hx hb hE hQ hU5 heff hnL hok hφ => ?_)
  have hw := hW.1
  obtain ⟨p0, p1, p2, p3, hps, k0, k1, k2, k3⟩ := zp_ps4 hok
  obtain ⟨a, rfl, hp⟩ := zp_this k0
  have hrm : zk_Kr (zk_ev (zt_types, zp_lk, zt_dv, [], [], zp_lc, zK_rk0)) = zk_Kr zK_rk0 := rfl
  rw [hps] at hφ ⊢
  have hi1 := zp_int k1
  have hφ : (-2147483648 ≤ p2 ∧ p2 ≤ 2147483648) ∧ (-2147483648 ≤ p3 ∧ p3 ≤ 2147483648) := hφ
  obtain ⟨⟨x1, x2⟩, y1, y2⟩ := hφ
  refine zp_kn (k := 38) (a := a) hw (show zp_fd 13 38 = some (12, 0, 0, 0, 1) from rfl) rfl hp (fun hkbr => ?_)
  obtain ⟨br, hbr⟩ : ∃ z0 : Int, (zp_n u.2.1) a 38 = z0 := ⟨_, rfl⟩
  have hbrb := zp_int hkbr
  rw [hbr] at hbrb
  have hop : p1 = 20 ∨ p1 = 21 ∨ p1 = 22 ∨ p1 = 23 ∨ p1 = 24 ∨ p1 = 25 ∨ p1 = 26 ∨ p1 = 27 := by omega
  rcases hop with rfl | rfl | rfl | rfl | rfl | rfl | rfl | rfl
  · show zp_J p l e R s m args below meth c Q w u [] 0 [(0, 2, (a : Int)), (1, 0, 20), (2, 1, p2), (4, 1, p3)] [] u.1 (zp_n u.2.1)
    refine zp_load (pc := 0) hx hb (zd_X12_reckon (0, .iload_n 1, 1, 0, []) (List.mem_of_getElem? (i := 0) rfl)) rfl (j := 1) rfl ?_
    refine zp_tin (tgt := 44) (off := 43) (pc := 1) hx hb (zd_X12_reckon (1, .tableswitch 148 20 26 #[43, 48, 53, 58, 90, 122, 135], 43, 0, []) (List.mem_of_getElem? (i := 1) rfl)) (by decide) (by decide) (by decide) rfl ?_
    refine zp_load (pc := 44) hx hb (zd_X12_reckon (44, .lload_n 2, 1, 0, []) (List.mem_of_getElem? (i := 2) rfl)) rfl (j := 2) rfl ?_
    refine zp_load (pc := 45) hx hb (zd_X12_reckon (45, .lload 4, 2, 0, []) (List.mem_of_getElem? (i := 3) rfl)) rfl (j := 3) rfl ?_
    refine zp_laddx (n := (p2 + p3)) (pc := 47) hx hb (zd_X12_reckon (47, .ladd, 1, 0, []) (List.mem_of_getElem? (i := 4) rfl)) rfl (zp_r1 (by omega) (by omega)) ?_
    have ez : (zp_n u.2.1) a 38 = br := hbr
    refine zp_lret (pc := 48) (n := (p2 + p3)) hx hb hE hQ hU5 rfl (by decide) (zd_X12_reckon (48, .lreturn, 1, 0, []) (List.mem_of_getElem? (i := 5) rfl)) (j := 0) rfl (zp_o1 (by first | assumption | exact zp_r1 (by omega) (by omega))) ?_
    rw [hps]
    refine ⟨rfl, ?_⟩
    show (((20 : Int) = 23 ∨ (20 : Int) = 24) ∧ p3 = 0 → (zp_n u.2.1) a 38 = 1 ∧ (p2 + p3) = 0) ∧ (¬ (((20 : Int) = 23 ∨ (20 : Int) = 24) ∧ p3 = 0) → (p2 + p3) = yd_v (20 : Int) p2 p3 ∧ (zp_n u.2.1) a 38 = if (20 : Int) = 23 ∨ (20 : Int) = 24 then 0 else zp_n u.2.1 a 38)
    rw [ez]
    refine ⟨fun h => absurd h.1 (by decide), fun _ => ⟨?_, rfl⟩⟩
    exact zg_v20 p2 p3
  · show zp_J p l e R s m args below meth c Q w u [] 0 [(0, 2, (a : Int)), (1, 0, 21), (2, 1, p2), (4, 1, p3)] [] u.1 (zp_n u.2.1)
    refine zp_load (pc := 0) hx hb (zd_X12_reckon (0, .iload_n 1, 1, 0, []) (List.mem_of_getElem? (i := 0) rfl)) rfl (j := 1) rfl ?_
    refine zp_tin (tgt := 49) (off := 48) (pc := 1) hx hb (zd_X12_reckon (1, .tableswitch 148 20 26 #[43, 48, 53, 58, 90, 122, 135], 43, 0, []) (List.mem_of_getElem? (i := 1) rfl)) (by decide) (by decide) (by decide) rfl ?_
    refine zp_load (pc := 49) hx hb (zd_X12_reckon (49, .lload_n 2, 1, 0, []) (List.mem_of_getElem? (i := 6) rfl)) rfl (j := 2) rfl ?_
    refine zp_load (pc := 50) hx hb (zd_X12_reckon (50, .lload 4, 2, 0, []) (List.mem_of_getElem? (i := 7) rfl)) rfl (j := 3) rfl ?_
    refine zp_lsubx (n := (p2 - p3)) (pc := 52) hx hb (zd_X12_reckon (52, .lsub, 1, 0, []) (List.mem_of_getElem? (i := 8) rfl)) rfl (zp_r1 (by omega) (by omega)) ?_
    have ez : (zp_n u.2.1) a 38 = br := hbr
    refine zp_lret (pc := 53) (n := (p2 - p3)) hx hb hE hQ hU5 rfl (by decide) (zd_X12_reckon (53, .lreturn, 1, 0, []) (List.mem_of_getElem? (i := 9) rfl)) (j := 0) rfl (zp_o1 (by first | assumption | exact zp_r1 (by omega) (by omega))) ?_
    rw [hps]
    refine ⟨rfl, ?_⟩
    show (((21 : Int) = 23 ∨ (21 : Int) = 24) ∧ p3 = 0 → (zp_n u.2.1) a 38 = 1 ∧ (p2 - p3) = 0) ∧ (¬ (((21 : Int) = 23 ∨ (21 : Int) = 24) ∧ p3 = 0) → (p2 - p3) = yd_v (21 : Int) p2 p3 ∧ (zp_n u.2.1) a 38 = if (21 : Int) = 23 ∨ (21 : Int) = 24 then 0 else zp_n u.2.1 a 38)
    rw [ez]
    refine ⟨fun h => absurd h.1 (by decide), fun _ => ⟨?_, rfl⟩⟩
    exact zg_v21 p2 p3
  · show zp_J p l e R s m args below meth c Q w u [] 0 [(0, 2, (a : Int)), (1, 0, 22), (2, 1, p2), (4, 1, p3)] [] u.1 (zp_n u.2.1)
    refine zp_load (pc := 0) hx hb (zd_X12_reckon (0, .iload_n 1, 1, 0, []) (List.mem_of_getElem? (i := 0) rfl)) rfl (j := 1) rfl ?_
    refine zp_tin (tgt := 54) (off := 53) (pc := 1) hx hb (zd_X12_reckon (1, .tableswitch 148 20 26 #[43, 48, 53, 58, 90, 122, 135], 43, 0, []) (List.mem_of_getElem? (i := 1) rfl)) (by decide) (by decide) (by decide) rfl ?_
    refine zp_load (pc := 54) hx hb (zd_X12_reckon (54, .lload_n 2, 1, 0, []) (List.mem_of_getElem? (i := 10) rfl)) rfl (j := 2) rfl ?_
    refine zp_load (pc := 55) hx hb (zd_X12_reckon (55, .lload 4, 2, 0, []) (List.mem_of_getElem? (i := 11) rfl)) rfl (j := 3) rfl ?_
    refine zp_lmulx (n := (p2 * p3)) (pc := 57) hx hb (zd_X12_reckon (57, .lmul, 1, 0, []) (List.mem_of_getElem? (i := 12) rfl)) rfl (zg_mulr x1 x2 y1 y2) ?_
    have ez : (zp_n u.2.1) a 38 = br := hbr
    have hrg : zk_rg 1 ((p2 * p3)) := zg_mulr x1 x2 y1 y2
    refine zp_lret (pc := 58) (n := (p2 * p3)) hx hb hE hQ hU5 rfl (by decide) (zd_X12_reckon (58, .lreturn, 1, 0, []) (List.mem_of_getElem? (i := 13) rfl)) (j := 0) rfl (zp_o1 (by first | assumption | exact zp_r1 (by omega) (by omega))) ?_
    rw [hps]
    refine ⟨rfl, ?_⟩
    show (((22 : Int) = 23 ∨ (22 : Int) = 24) ∧ p3 = 0 → (zp_n u.2.1) a 38 = 1 ∧ (p2 * p3) = 0) ∧ (¬ (((22 : Int) = 23 ∨ (22 : Int) = 24) ∧ p3 = 0) → (p2 * p3) = yd_v (22 : Int) p2 p3 ∧ (zp_n u.2.1) a 38 = if (22 : Int) = 23 ∨ (22 : Int) = 24 then 0 else zp_n u.2.1 a 38)
    rw [ez]
    refine ⟨fun h => absurd h.1 (by decide), fun _ => ⟨?_, rfl⟩⟩
    exact zg_v22 p2 p3
  · show zp_J p l e R s m args below meth c Q w u [] 0 [(0, 2, (a : Int)), (1, 0, 23), (2, 1, p2), (4, 1, p3)] [] u.1 (zp_n u.2.1)
    by_cases hy0 : p3 = 0
    · refine zp_load (pc := 0) hx hb (zd_X12_reckon (0, .iload_n 1, 1, 0, []) (List.mem_of_getElem? (i := 0) rfl)) rfl (j := 1) rfl ?_
      refine zp_tin (tgt := 59) (off := 58) (pc := 1) hx hb (zd_X12_reckon (1, .tableswitch 148 20 26 #[43, 48, 53, 58, 90, 122, 135], 43, 0, []) (List.mem_of_getElem? (i := 1) rfl)) (by decide) (by decide) (by decide) rfl ?_
      refine zp_load (pc := 59) hx hb (zd_X12_reckon (59, .aload_n 0, 1, 0, []) (List.mem_of_getElem? (i := 14) rfl)) rfl (j := 0) rfl ?_
      refine zp_load (pc := 60) hx hb (zd_X12_reckon (60, .lload 4, 2, 0, []) (List.mem_of_getElem? (i := 15) rfl)) rfl (j := 3) rfl ?_
      refine zp_const (pc := 62) hx hb (zd_X12_reckon (62, .lconst 0, 1, 0, []) (List.mem_of_getElem? (i := 16) rfl)) rfl rfl ?_
      refine zp_lcmp (pc := 63) (tgt := 71) hx hb (zd_X12_reckon (63, .lcmp, 1, 0, []) (List.mem_of_getElem? (i := 17) rfl)) (zd_X12_reckon (64, .ifCond .ne 7, 3, 0, []) (List.mem_of_getElem? (i := 18) rfl)) rfl (fun (hc21 : ¬ p3 = 0) => ?_) (fun (hc21 : ¬ (¬ p3 = 0)) => ?_)
      · exfalso
        omega
      · refine zp_const (pc := 67) hx hb (zd_X12_reckon (67, .iconst 1, 1, 0, []) (List.mem_of_getElem? (i := 19) rfl)) rfl rfl ?_
        refine zp_goto (tgt := 72) (pc := 68) hx hb (zd_X12_reckon (68, .goto 4, 3, 0, []) (List.mem_of_getElem? (i := 20) rfl)) rfl ?_
        refine zp_putf (pc := 72) hx hb hE hw heff (zd_X12_reckon (72, .putfield 388, 3, 0, []) (List.mem_of_getElem? (i := 22) rfl)) (j := 56) rfl rfl rfl hp (zp_o0 (by decide) (by decide) (by decide) (by decide)) ?_
        refine zp_load (pc := 75) hx hb (zd_X12_reckon (75, .aload_n 0, 1, 0, []) (List.mem_of_getElem? (i := 23) rfl)) rfl (j := 0) rfl ?_
        refine zp_getf (n := 1) (pc := 76) hx hb hE hw (zd_X12_reckon (76, .getfield 388, 3, 0, []) (List.mem_of_getElem? (i := 24) rfl)) (j := 56) rfl rfl rfl hp zp_set_self ?_
        refine zp_if (pc := 79) (tgt := 86) hx hb (zd_X12_reckon (79, .ifCond .eq 7, 3, 0, []) (List.mem_of_getElem? (i := 25) rfl)) rfl (fun (hc22 : 1 = 0) => ?_) (fun (hc22 : ¬ (1 = 0)) => ?_)
        · exfalso
          omega
        · refine zp_const (pc := 82) hx hb (zd_X12_reckon (82, .lconst 0, 1, 0, []) (List.mem_of_getElem? (i := 26) rfl)) rfl rfl ?_
          refine zp_goto (tgt := 90) (pc := 83) hx hb (zd_X12_reckon (83, .goto 7, 3, 0, []) (List.mem_of_getElem? (i := 27) rfl)) rfl ?_
          have ez : (zp_set (zp_n u.2.1) a 38 1) a 38 = 1 := zp_set_self
          refine zp_lret (pc := 90) (n := 0) hx hb hE hQ hU5 rfl (by decide) (zd_X12_reckon (90, .lreturn, 1, 0, []) (List.mem_of_getElem? (i := 31) rfl)) (j := 0) rfl (zp_o1 (by first | assumption | exact zp_r1 (by omega) (by omega))) ?_
          rw [hps]
          refine ⟨rfl, ?_⟩
          show (((23 : Int) = 23 ∨ (23 : Int) = 24) ∧ p3 = 0 → (zp_set (zp_n u.2.1) a 38 1) a 38 = 1 ∧ 0 = 0) ∧ (¬ (((23 : Int) = 23 ∨ (23 : Int) = 24) ∧ p3 = 0) → 0 = yd_v (23 : Int) p2 p3 ∧ (zp_set (zp_n u.2.1) a 38 1) a 38 = if (23 : Int) = 23 ∨ (23 : Int) = 24 then 0 else zp_n u.2.1 a 38)
          rw [ez]
          exact ⟨fun _ => ⟨rfl, rfl⟩, fun h => absurd ⟨by decide, hy0⟩ h⟩
    · have hn0 : p3 ≠ 0 := hy0
      refine zp_load (pc := 0) hx hb (zd_X12_reckon (0, .iload_n 1, 1, 0, []) (List.mem_of_getElem? (i := 0) rfl)) rfl (j := 1) rfl ?_
      refine zp_tin (tgt := 59) (off := 58) (pc := 1) hx hb (zd_X12_reckon (1, .tableswitch 148 20 26 #[43, 48, 53, 58, 90, 122, 135], 43, 0, []) (List.mem_of_getElem? (i := 1) rfl)) (by decide) (by decide) (by decide) rfl ?_
      refine zp_load (pc := 59) hx hb (zd_X12_reckon (59, .aload_n 0, 1, 0, []) (List.mem_of_getElem? (i := 14) rfl)) rfl (j := 0) rfl ?_
      refine zp_load (pc := 60) hx hb (zd_X12_reckon (60, .lload 4, 2, 0, []) (List.mem_of_getElem? (i := 15) rfl)) rfl (j := 3) rfl ?_
      refine zp_const (pc := 62) hx hb (zd_X12_reckon (62, .lconst 0, 1, 0, []) (List.mem_of_getElem? (i := 16) rfl)) rfl rfl ?_
      refine zp_lcmp (pc := 63) (tgt := 71) hx hb (zd_X12_reckon (63, .lcmp, 1, 0, []) (List.mem_of_getElem? (i := 17) rfl)) (zd_X12_reckon (64, .ifCond .ne 7, 3, 0, []) (List.mem_of_getElem? (i := 18) rfl)) rfl (fun (hc23 : ¬ p3 = 0) => ?_) (fun (hc23 : ¬ (¬ p3 = 0)) => ?_)
      · refine zp_const (pc := 71) hx hb (zd_X12_reckon (71, .iconst 0, 1, 0, []) (List.mem_of_getElem? (i := 21) rfl)) rfl rfl ?_
        refine zp_putf (pc := 72) hx hb hE hw heff (zd_X12_reckon (72, .putfield 388, 3, 0, []) (List.mem_of_getElem? (i := 22) rfl)) (j := 56) rfl rfl rfl hp (zp_o0 (by decide) (by decide) (by decide) (by decide)) ?_
        refine zp_load (pc := 75) hx hb (zd_X12_reckon (75, .aload_n 0, 1, 0, []) (List.mem_of_getElem? (i := 23) rfl)) rfl (j := 0) rfl ?_
        refine zp_getf (n := 0) (pc := 76) hx hb hE hw (zd_X12_reckon (76, .getfield 388, 3, 0, []) (List.mem_of_getElem? (i := 24) rfl)) (j := 56) rfl rfl rfl hp zp_set_self ?_
        refine zp_if (pc := 79) (tgt := 86) hx hb (zd_X12_reckon (79, .ifCond .eq 7, 3, 0, []) (List.mem_of_getElem? (i := 25) rfl)) rfl (fun (hc24 : 0 = 0) => ?_) (fun (hc24 : ¬ (0 = 0)) => ?_)
        · refine zp_load (pc := 86) hx hb (zd_X12_reckon (86, .lload_n 2, 1, 0, []) (List.mem_of_getElem? (i := 28) rfl)) rfl (j := 2) rfl ?_
          refine zp_load (pc := 87) hx hb (zd_X12_reckon (87, .lload 4, 2, 0, []) (List.mem_of_getElem? (i := 29) rfl)) rfl (j := 3) rfl ?_
          refine zp_ldivx (n := (p2.tdiv p3)) (pc := 89) hx hb (zd_X12_reckon (89, .ldiv, 1, 0, []) (List.mem_of_getElem? (i := 30) rfl)) hn0 rfl (zp_r1 (by have := (zg_divr (b := p3) x1 x2).1; omega) (by have := (zg_divr (b := p3) x1 x2).2; omega)) ?_
          have ez : (zp_set (zp_n u.2.1) a 38 0) a 38 = 0 := zp_set_self
          have hrg : zk_rg 1 ((p2.tdiv p3)) := ⟨by have := (zg_divr (b := p3) x1 x2).1; show -9223372036854775808 ≤ _; omega, by have := (zg_divr (b := p3) x1 x2).2; show _ ≤ 9223372036854775807; omega⟩
          refine zp_lret (pc := 90) (n := (p2.tdiv p3)) hx hb hE hQ hU5 rfl (by decide) (zd_X12_reckon (90, .lreturn, 1, 0, []) (List.mem_of_getElem? (i := 31) rfl)) (j := 0) rfl (zp_o1 (by first | assumption | exact zp_r1 (by omega) (by omega))) ?_
          rw [hps]
          refine ⟨rfl, ?_⟩
          show (((23 : Int) = 23 ∨ (23 : Int) = 24) ∧ p3 = 0 → (zp_set (zp_n u.2.1) a 38 0) a 38 = 1 ∧ (p2.tdiv p3) = 0) ∧ (¬ (((23 : Int) = 23 ∨ (23 : Int) = 24) ∧ p3 = 0) → (p2.tdiv p3) = yd_v (23 : Int) p2 p3 ∧ (zp_set (zp_n u.2.1) a 38 0) a 38 = if (23 : Int) = 23 ∨ (23 : Int) = 24 then 0 else zp_n u.2.1 a 38)
          rw [ez]
          exact ⟨fun h => absurd h.2 hy0, fun _ => ⟨by unfold yd_v; rfl, rfl⟩⟩
        · exfalso
          omega
      · exfalso
        omega
  · show zp_J p l e R s m args below meth c Q w u [] 0 [(0, 2, (a : Int)), (1, 0, 24), (2, 1, p2), (4, 1, p3)] [] u.1 (zp_n u.2.1)
    by_cases hy0 : p3 = 0
    · refine zp_load (pc := 0) hx hb (zd_X12_reckon (0, .iload_n 1, 1, 0, []) (List.mem_of_getElem? (i := 0) rfl)) rfl (j := 1) rfl ?_
      refine zp_tin (tgt := 91) (off := 90) (pc := 1) hx hb (zd_X12_reckon (1, .tableswitch 148 20 26 #[43, 48, 53, 58, 90, 122, 135], 43, 0, []) (List.mem_of_getElem? (i := 1) rfl)) (by decide) (by decide) (by decide) rfl ?_
      refine zp_load (pc := 91) hx hb (zd_X12_reckon (91, .aload_n 0, 1, 0, []) (List.mem_of_getElem? (i := 32) rfl)) rfl (j := 0) rfl ?_
      refine zp_load (pc := 92) hx hb (zd_X12_reckon (92, .lload 4, 2, 0, []) (List.mem_of_getElem? (i := 33) rfl)) rfl (j := 3) rfl ?_
      refine zp_const (pc := 94) hx hb (zd_X12_reckon (94, .lconst 0, 1, 0, []) (List.mem_of_getElem? (i := 34) rfl)) rfl rfl ?_
      refine zp_lcmp (pc := 95) (tgt := 103) hx hb (zd_X12_reckon (95, .lcmp, 1, 0, []) (List.mem_of_getElem? (i := 35) rfl)) (zd_X12_reckon (96, .ifCond .ne 7, 3, 0, []) (List.mem_of_getElem? (i := 36) rfl)) rfl (fun (hc25 : ¬ p3 = 0) => ?_) (fun (hc25 : ¬ (¬ p3 = 0)) => ?_)
      · exfalso
        omega
      · refine zp_const (pc := 99) hx hb (zd_X12_reckon (99, .iconst 1, 1, 0, []) (List.mem_of_getElem? (i := 37) rfl)) rfl rfl ?_
        refine zp_goto (tgt := 104) (pc := 100) hx hb (zd_X12_reckon (100, .goto 4, 3, 0, []) (List.mem_of_getElem? (i := 38) rfl)) rfl ?_
        refine zp_putf (pc := 104) hx hb hE hw heff (zd_X12_reckon (104, .putfield 388, 3, 0, []) (List.mem_of_getElem? (i := 40) rfl)) (j := 56) rfl rfl rfl hp (zp_o0 (by decide) (by decide) (by decide) (by decide)) ?_
        refine zp_load (pc := 107) hx hb (zd_X12_reckon (107, .aload_n 0, 1, 0, []) (List.mem_of_getElem? (i := 41) rfl)) rfl (j := 0) rfl ?_
        refine zp_getf (n := 1) (pc := 108) hx hb hE hw (zd_X12_reckon (108, .getfield 388, 3, 0, []) (List.mem_of_getElem? (i := 42) rfl)) (j := 56) rfl rfl rfl hp zp_set_self ?_
        refine zp_if (pc := 111) (tgt := 118) hx hb (zd_X12_reckon (111, .ifCond .eq 7, 3, 0, []) (List.mem_of_getElem? (i := 43) rfl)) rfl (fun (hc26 : 1 = 0) => ?_) (fun (hc26 : ¬ (1 = 0)) => ?_)
        · exfalso
          omega
        · refine zp_const (pc := 114) hx hb (zd_X12_reckon (114, .lconst 0, 1, 0, []) (List.mem_of_getElem? (i := 44) rfl)) rfl rfl ?_
          refine zp_goto (tgt := 122) (pc := 115) hx hb (zd_X12_reckon (115, .goto 7, 3, 0, []) (List.mem_of_getElem? (i := 45) rfl)) rfl ?_
          have ez : (zp_set (zp_n u.2.1) a 38 1) a 38 = 1 := zp_set_self
          refine zp_lret (pc := 122) (n := 0) hx hb hE hQ hU5 rfl (by decide) (zd_X12_reckon (122, .lreturn, 1, 0, []) (List.mem_of_getElem? (i := 49) rfl)) (j := 0) rfl (zp_o1 (by first | assumption | exact zp_r1 (by omega) (by omega))) ?_
          rw [hps]
          refine ⟨rfl, ?_⟩
          show (((24 : Int) = 23 ∨ (24 : Int) = 24) ∧ p3 = 0 → (zp_set (zp_n u.2.1) a 38 1) a 38 = 1 ∧ 0 = 0) ∧ (¬ (((24 : Int) = 23 ∨ (24 : Int) = 24) ∧ p3 = 0) → 0 = yd_v (24 : Int) p2 p3 ∧ (zp_set (zp_n u.2.1) a 38 1) a 38 = if (24 : Int) = 23 ∨ (24 : Int) = 24 then 0 else zp_n u.2.1 a 38)
          rw [ez]
          exact ⟨fun _ => ⟨rfl, rfl⟩, fun h => absurd ⟨by decide, hy0⟩ h⟩
    · have hn0 : p3 ≠ 0 := hy0
      refine zp_load (pc := 0) hx hb (zd_X12_reckon (0, .iload_n 1, 1, 0, []) (List.mem_of_getElem? (i := 0) rfl)) rfl (j := 1) rfl ?_
      refine zp_tin (tgt := 91) (off := 90) (pc := 1) hx hb (zd_X12_reckon (1, .tableswitch 148 20 26 #[43, 48, 53, 58, 90, 122, 135], 43, 0, []) (List.mem_of_getElem? (i := 1) rfl)) (by decide) (by decide) (by decide) rfl ?_
      refine zp_load (pc := 91) hx hb (zd_X12_reckon (91, .aload_n 0, 1, 0, []) (List.mem_of_getElem? (i := 32) rfl)) rfl (j := 0) rfl ?_
      refine zp_load (pc := 92) hx hb (zd_X12_reckon (92, .lload 4, 2, 0, []) (List.mem_of_getElem? (i := 33) rfl)) rfl (j := 3) rfl ?_
      refine zp_const (pc := 94) hx hb (zd_X12_reckon (94, .lconst 0, 1, 0, []) (List.mem_of_getElem? (i := 34) rfl)) rfl rfl ?_
      refine zp_lcmp (pc := 95) (tgt := 103) hx hb (zd_X12_reckon (95, .lcmp, 1, 0, []) (List.mem_of_getElem? (i := 35) rfl)) (zd_X12_reckon (96, .ifCond .ne 7, 3, 0, []) (List.mem_of_getElem? (i := 36) rfl)) rfl (fun (hc27 : ¬ p3 = 0) => ?_) (fun (hc27 : ¬ (¬ p3 = 0)) => ?_)
      · refine zp_const (pc := 103) hx hb (zd_X12_reckon (103, .iconst 0, 1, 0, []) (List.mem_of_getElem? (i := 39) rfl)) rfl rfl ?_
        refine zp_putf (pc := 104) hx hb hE hw heff (zd_X12_reckon (104, .putfield 388, 3, 0, []) (List.mem_of_getElem? (i := 40) rfl)) (j := 56) rfl rfl rfl hp (zp_o0 (by decide) (by decide) (by decide) (by decide)) ?_
        refine zp_load (pc := 107) hx hb (zd_X12_reckon (107, .aload_n 0, 1, 0, []) (List.mem_of_getElem? (i := 41) rfl)) rfl (j := 0) rfl ?_
        refine zp_getf (n := 0) (pc := 108) hx hb hE hw (zd_X12_reckon (108, .getfield 388, 3, 0, []) (List.mem_of_getElem? (i := 42) rfl)) (j := 56) rfl rfl rfl hp zp_set_self ?_
        refine zp_if (pc := 111) (tgt := 118) hx hb (zd_X12_reckon (111, .ifCond .eq 7, 3, 0, []) (List.mem_of_getElem? (i := 43) rfl)) rfl (fun (hc28 : 0 = 0) => ?_) (fun (hc28 : ¬ (0 = 0)) => ?_)
        · refine zp_load (pc := 118) hx hb (zd_X12_reckon (118, .lload_n 2, 1, 0, []) (List.mem_of_getElem? (i := 46) rfl)) rfl (j := 2) rfl ?_
          refine zp_load (pc := 119) hx hb (zd_X12_reckon (119, .lload 4, 2, 0, []) (List.mem_of_getElem? (i := 47) rfl)) rfl (j := 3) rfl ?_
          refine zp_lremx (n := (p2.tmod p3)) (pc := 121) hx hb (zd_X12_reckon (121, .lrem, 1, 0, []) (List.mem_of_getElem? (i := 48) rfl)) hn0 rfl (zp_r1 (by have := (zg_modr (b := p3) x1 x2).1; omega) (by have := (zg_modr (b := p3) x1 x2).2; omega)) ?_
          have ez : (zp_set (zp_n u.2.1) a 38 0) a 38 = 0 := zp_set_self
          have hrg : zk_rg 1 ((p2.tmod p3)) := ⟨by have := (zg_modr (b := p3) x1 x2).1; show -9223372036854775808 ≤ _; omega, by have := (zg_modr (b := p3) x1 x2).2; show _ ≤ 9223372036854775807; omega⟩
          refine zp_lret (pc := 122) (n := (p2.tmod p3)) hx hb hE hQ hU5 rfl (by decide) (zd_X12_reckon (122, .lreturn, 1, 0, []) (List.mem_of_getElem? (i := 49) rfl)) (j := 0) rfl (zp_o1 (by first | assumption | exact zp_r1 (by omega) (by omega))) ?_
          rw [hps]
          refine ⟨rfl, ?_⟩
          show (((24 : Int) = 23 ∨ (24 : Int) = 24) ∧ p3 = 0 → (zp_set (zp_n u.2.1) a 38 0) a 38 = 1 ∧ (p2.tmod p3) = 0) ∧ (¬ (((24 : Int) = 23 ∨ (24 : Int) = 24) ∧ p3 = 0) → (p2.tmod p3) = yd_v (24 : Int) p2 p3 ∧ (zp_set (zp_n u.2.1) a 38 0) a 38 = if (24 : Int) = 23 ∨ (24 : Int) = 24 then 0 else zp_n u.2.1 a 38)
          rw [ez]
          exact ⟨fun h => absurd h.2 hy0, fun _ => ⟨by unfold yd_v; rfl, rfl⟩⟩
        · exfalso
          omega
      · exfalso
        omega
  · show zp_J p l e R s m args below meth c Q w u [] 0 [(0, 2, (a : Int)), (1, 0, 25), (2, 1, p2), (4, 1, p3)] [] u.1 (zp_n u.2.1)
    refine zp_load (pc := 0) hx hb (zd_X12_reckon (0, .iload_n 1, 1, 0, []) (List.mem_of_getElem? (i := 0) rfl)) rfl (j := 1) rfl ?_
    refine zp_tin (tgt := 123) (off := 122) (pc := 1) hx hb (zd_X12_reckon (1, .tableswitch 148 20 26 #[43, 48, 53, 58, 90, 122, 135], 43, 0, []) (List.mem_of_getElem? (i := 1) rfl)) (by decide) (by decide) (by decide) rfl ?_
    refine zp_load (pc := 123) hx hb (zd_X12_reckon (123, .lload_n 2, 1, 0, []) (List.mem_of_getElem? (i := 50) rfl)) rfl (j := 2) rfl ?_
    refine zp_load (pc := 124) hx hb (zd_X12_reckon (124, .lload 4, 2, 0, []) (List.mem_of_getElem? (i := 51) rfl)) rfl (j := 3) rfl ?_
    refine zp_lcmp (pc := 126) (tgt := 134) hx hb (zd_X12_reckon (126, .lcmp, 1, 0, []) (List.mem_of_getElem? (i := 52) rfl)) (zd_X12_reckon (127, .ifCond .ge 7, 3, 0, []) (List.mem_of_getElem? (i := 53) rfl)) rfl (fun (hc29 : p3 ≤ p2) => ?_) (fun (hc29 : ¬ (p3 ≤ p2)) => ?_)
    · refine zp_const (pc := 134) hx hb (zd_X12_reckon (134, .lconst 0, 1, 0, []) (List.mem_of_getElem? (i := 56) rfl)) rfl rfl ?_
      have ez : (zp_n u.2.1) a 38 = br := hbr
      refine zp_lret (pc := 135) (n := 0) hx hb hE hQ hU5 rfl (by decide) (zd_X12_reckon (135, .lreturn, 1, 0, []) (List.mem_of_getElem? (i := 57) rfl)) (j := 0) rfl (zp_o1 (by first | assumption | exact zp_r1 (by omega) (by omega))) ?_
      rw [hps]
      refine ⟨rfl, ?_⟩
      show (((25 : Int) = 23 ∨ (25 : Int) = 24) ∧ p3 = 0 → (zp_n u.2.1) a 38 = 1 ∧ 0 = 0) ∧ (¬ (((25 : Int) = 23 ∨ (25 : Int) = 24) ∧ p3 = 0) → 0 = yd_v (25 : Int) p2 p3 ∧ (zp_n u.2.1) a 38 = if (25 : Int) = 23 ∨ (25 : Int) = 24 then 0 else zp_n u.2.1 a 38)
      rw [ez]
      refine ⟨fun h => absurd h.1 (by decide), fun _ => ⟨?_, rfl⟩⟩
      first | exact (zg_v25 p2 p3).1 (by omega) | exact (zg_v25 p2 p3).2 (by omega)
    · refine zp_const (pc := 130) hx hb (zd_X12_reckon (130, .lconst 1, 1, 0, []) (List.mem_of_getElem? (i := 54) rfl)) rfl rfl ?_
      refine zp_goto (tgt := 135) (pc := 131) hx hb (zd_X12_reckon (131, .goto 4, 3, 0, []) (List.mem_of_getElem? (i := 55) rfl)) rfl ?_
      have ez : (zp_n u.2.1) a 38 = br := hbr
      refine zp_lret (pc := 135) (n := 1) hx hb hE hQ hU5 rfl (by decide) (zd_X12_reckon (135, .lreturn, 1, 0, []) (List.mem_of_getElem? (i := 57) rfl)) (j := 0) rfl (zp_o1 (by first | assumption | exact zp_r1 (by omega) (by omega))) ?_
      rw [hps]
      refine ⟨rfl, ?_⟩
      show (((25 : Int) = 23 ∨ (25 : Int) = 24) ∧ p3 = 0 → (zp_n u.2.1) a 38 = 1 ∧ 1 = 0) ∧ (¬ (((25 : Int) = 23 ∨ (25 : Int) = 24) ∧ p3 = 0) → 1 = yd_v (25 : Int) p2 p3 ∧ (zp_n u.2.1) a 38 = if (25 : Int) = 23 ∨ (25 : Int) = 24 then 0 else zp_n u.2.1 a 38)
      rw [ez]
      refine ⟨fun h => absurd h.1 (by decide), fun _ => ⟨?_, rfl⟩⟩
      first | exact (zg_v25 p2 p3).1 (by omega) | exact (zg_v25 p2 p3).2 (by omega)
  · show zp_J p l e R s m args below meth c Q w u [] 0 [(0, 2, (a : Int)), (1, 0, 26), (2, 1, p2), (4, 1, p3)] [] u.1 (zp_n u.2.1)
    refine zp_load (pc := 0) hx hb (zd_X12_reckon (0, .iload_n 1, 1, 0, []) (List.mem_of_getElem? (i := 0) rfl)) rfl (j := 1) rfl ?_
    refine zp_tin (tgt := 136) (off := 135) (pc := 1) hx hb (zd_X12_reckon (1, .tableswitch 148 20 26 #[43, 48, 53, 58, 90, 122, 135], 43, 0, []) (List.mem_of_getElem? (i := 1) rfl)) (by decide) (by decide) (by decide) rfl ?_
    refine zp_load (pc := 136) hx hb (zd_X12_reckon (136, .lload_n 2, 1, 0, []) (List.mem_of_getElem? (i := 58) rfl)) rfl (j := 2) rfl ?_
    refine zp_load (pc := 137) hx hb (zd_X12_reckon (137, .lload 4, 2, 0, []) (List.mem_of_getElem? (i := 59) rfl)) rfl (j := 3) rfl ?_
    refine zp_lcmp (pc := 139) (tgt := 147) hx hb (zd_X12_reckon (139, .lcmp, 1, 0, []) (List.mem_of_getElem? (i := 60) rfl)) (zd_X12_reckon (140, .ifCond .le 7, 3, 0, []) (List.mem_of_getElem? (i := 61) rfl)) rfl (fun (hc30 : p2 ≤ p3) => ?_) (fun (hc30 : ¬ (p2 ≤ p3)) => ?_)
    · refine zp_const (pc := 147) hx hb (zd_X12_reckon (147, .lconst 0, 1, 0, []) (List.mem_of_getElem? (i := 64) rfl)) rfl rfl ?_
      have ez : (zp_n u.2.1) a 38 = br := hbr
      refine zp_lret (pc := 148) (n := 0) hx hb hE hQ hU5 rfl (by decide) (zd_X12_reckon (148, .lreturn, 1, 0, []) (List.mem_of_getElem? (i := 65) rfl)) (j := 0) rfl (zp_o1 (by first | assumption | exact zp_r1 (by omega) (by omega))) ?_
      rw [hps]
      refine ⟨rfl, ?_⟩
      show (((26 : Int) = 23 ∨ (26 : Int) = 24) ∧ p3 = 0 → (zp_n u.2.1) a 38 = 1 ∧ 0 = 0) ∧ (¬ (((26 : Int) = 23 ∨ (26 : Int) = 24) ∧ p3 = 0) → 0 = yd_v (26 : Int) p2 p3 ∧ (zp_n u.2.1) a 38 = if (26 : Int) = 23 ∨ (26 : Int) = 24 then 0 else zp_n u.2.1 a 38)
      rw [ez]
      refine ⟨fun h => absurd h.1 (by decide), fun _ => ⟨?_, rfl⟩⟩
      first | exact (zg_v26 p2 p3).1 (by omega) | exact (zg_v26 p2 p3).2 (by omega)
    · refine zp_const (pc := 143) hx hb (zd_X12_reckon (143, .lconst 1, 1, 0, []) (List.mem_of_getElem? (i := 62) rfl)) rfl rfl ?_
      refine zp_goto (tgt := 148) (pc := 144) hx hb (zd_X12_reckon (144, .goto 4, 3, 0, []) (List.mem_of_getElem? (i := 63) rfl)) rfl ?_
      have ez : (zp_n u.2.1) a 38 = br := hbr
      refine zp_lret (pc := 148) (n := 1) hx hb hE hQ hU5 rfl (by decide) (zd_X12_reckon (148, .lreturn, 1, 0, []) (List.mem_of_getElem? (i := 65) rfl)) (j := 0) rfl (zp_o1 (by first | assumption | exact zp_r1 (by omega) (by omega))) ?_
      rw [hps]
      refine ⟨rfl, ?_⟩
      show (((26 : Int) = 23 ∨ (26 : Int) = 24) ∧ p3 = 0 → (zp_n u.2.1) a 38 = 1 ∧ 1 = 0) ∧ (¬ (((26 : Int) = 23 ∨ (26 : Int) = 24) ∧ p3 = 0) → 1 = yd_v (26 : Int) p2 p3 ∧ (zp_n u.2.1) a 38 = if (26 : Int) = 23 ∨ (26 : Int) = 24 then 0 else zp_n u.2.1 a 38)
      rw [ez]
      refine ⟨fun h => absurd h.1 (by decide), fun _ => ⟨?_, rfl⟩⟩
      first | exact (zg_v26 p2 p3).1 (by omega) | exact (zg_v26 p2 p3).2 (by omega)
  · show zp_J p l e R s m args below meth c Q w u [] 0 [(0, 2, (a : Int)), (1, 0, 27), (2, 1, p2), (4, 1, p3)] [] u.1 (zp_n u.2.1)
    refine zp_load (pc := 0) hx hb (zd_X12_reckon (0, .iload_n 1, 1, 0, []) (List.mem_of_getElem? (i := 0) rfl)) rfl (j := 1) rfl ?_
    refine zp_tout (tgt := 149) (pc := 1) hx hb (zd_X12_reckon (1, .tableswitch 148 20 26 #[43, 48, 53, 58, 90, 122, 135], 43, 0, []) (List.mem_of_getElem? (i := 1) rfl)) (by decide) rfl ?_
    refine zp_load (pc := 149) hx hb (zd_X12_reckon (149, .lload_n 2, 1, 0, []) (List.mem_of_getElem? (i := 66) rfl)) rfl (j := 2) rfl ?_
    refine zp_load (pc := 150) hx hb (zd_X12_reckon (150, .lload 4, 2, 0, []) (List.mem_of_getElem? (i := 67) rfl)) rfl (j := 3) rfl ?_
    refine zp_lcmp (pc := 152) (tgt := 160) hx hb (zd_X12_reckon (152, .lcmp, 1, 0, []) (List.mem_of_getElem? (i := 68) rfl)) (zd_X12_reckon (153, .ifCond .ne 7, 3, 0, []) (List.mem_of_getElem? (i := 69) rfl)) rfl (fun (hc31 : ¬ p2 = p3) => ?_) (fun (hc31 : ¬ (¬ p2 = p3)) => ?_)
    · refine zp_const (pc := 160) hx hb (zd_X12_reckon (160, .lconst 0, 1, 0, []) (List.mem_of_getElem? (i := 72) rfl)) rfl rfl ?_
      have ez : (zp_n u.2.1) a 38 = br := hbr
      refine zp_lret (pc := 161) (n := 0) hx hb hE hQ hU5 rfl (by decide) (zd_X12_reckon (161, .lreturn, 1, 0, []) (List.mem_of_getElem? (i := 73) rfl)) (j := 0) rfl (zp_o1 (by first | assumption | exact zp_r1 (by omega) (by omega))) ?_
      rw [hps]
      refine ⟨rfl, ?_⟩
      show (((27 : Int) = 23 ∨ (27 : Int) = 24) ∧ p3 = 0 → (zp_n u.2.1) a 38 = 1 ∧ 0 = 0) ∧ (¬ (((27 : Int) = 23 ∨ (27 : Int) = 24) ∧ p3 = 0) → 0 = yd_v (27 : Int) p2 p3 ∧ (zp_n u.2.1) a 38 = if (27 : Int) = 23 ∨ (27 : Int) = 24 then 0 else zp_n u.2.1 a 38)
      rw [ez]
      refine ⟨fun h => absurd h.1 (by decide), fun _ => ⟨?_, rfl⟩⟩
      first | exact (zg_v27 p2 p3).1 (by omega) | exact (zg_v27 p2 p3).2 (by omega)
    · refine zp_const (pc := 156) hx hb (zd_X12_reckon (156, .lconst 1, 1, 0, []) (List.mem_of_getElem? (i := 70) rfl)) rfl rfl ?_
      refine zp_goto (tgt := 161) (pc := 157) hx hb (zd_X12_reckon (157, .goto 4, 3, 0, []) (List.mem_of_getElem? (i := 71) rfl)) rfl ?_
      have ez : (zp_n u.2.1) a 38 = br := hbr
      refine zp_lret (pc := 161) (n := 1) hx hb hE hQ hU5 rfl (by decide) (zd_X12_reckon (161, .lreturn, 1, 0, []) (List.mem_of_getElem? (i := 73) rfl)) (j := 0) rfl (zp_o1 (by first | assumption | exact zp_r1 (by omega) (by omega))) ?_
      rw [hps]
      refine ⟨rfl, ?_⟩
      show (((27 : Int) = 23 ∨ (27 : Int) = 24) ∧ p3 = 0 → (zp_n u.2.1) a 38 = 1 ∧ 1 = 0) ∧ (¬ (((27 : Int) = 23 ∨ (27 : Int) = 24) ∧ p3 = 0) → 1 = yd_v (27 : Int) p2 p3 ∧ (zp_n u.2.1) a 38 = if (27 : Int) = 23 ∨ (27 : Int) = 24 then 0 else zp_n u.2.1 a 38)
      rw [ez]
      refine ⟨fun h => absurd h.1 (by decide), fun _ => ⟨?_, rfl⟩⟩
      first | exact (zg_v27 p2 p3).1 (by omega) | exact (zg_v27 p2 p3).2 (by omega)
