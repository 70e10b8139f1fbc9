/-! part 7j: WoundTown: isWithin, game: its number -/
noncomputable def zK_iw : zk_K := (zt_mn 15, prog_1_method_55_code, 3, (Option.some Jvm.ClassFile.FieldType.boolean), 0, 11, [(0, 0, (-2147483648), 2147483647), (0, 0, (-2147483648), 2147483647), (0, 0, (-2147483648), 2147483647)], [(some (0, 0, 0, 1), [])], [], (0, 0, 0, 0))
noncomputable def zψ_iw : (Nat → Option Nat) → (Nat → Nat → Int) → List Int → (Nat → Option Nat) → (Nat → Nat → Int) → Int → Prop := fun P G ps P' G' rn => P' = P ∧ G' = G ∧ (rn = 1 ↔ ps.getD 1 0 ≤ ps.getD 0 0 ∧ ps.getD 0 0 ≤ ps.getD 2 0)
theorem zX_iw {l : Launch} {w : zk_W} (hW : zh_W w) : zk_metX l w zt_dv zt_TB zK_iw (zp_A zp_tA) (zp_B zψ_iw) ∧ zk_cok w zt_TB zK_iw := by
  refine zp_methW hW (pl := 607) rfl (by decide +kernel) (fun p e R s m args below meth c Q u hx hb hE hQ hU5 heff hnL hok hφ => ?_)
  have hw := hW.1
  obtain ⟨p0, p1, p2, hps, k0, k1, k2⟩ := zp_ps3 hok
  rw [hps]
  have hi0 := zp_int k0
  have hi1 := zp_int k1
  have hi2 := zp_int k2
  show zp_J p l e R s m args below meth c Q w u [] 0 [(0, 0, p0), (1, 0, p1), (2, 0, p2)] [] u.1 (zp_n u.2.1)
  refine zp_load (pc := 0) hx hb (zd_X11_isWithin (0, .iload_n 0, 1, 0, []) (List.mem_of_getElem? (i := 0) rfl)) rfl (j := 0) rfl ?_
  refine zp_load (pc := 1) hx hb (zd_X11_isWithin (1, .iload_n 1, 1, 0, []) (List.mem_of_getElem? (i := 1) rfl)) rfl (j := 1) rfl ?_
  refine zp_icmp (pc := 2) (tgt := 14) hx hb (zd_X11_isWithin (2, .if_icmp .lt 12, 3, 0, []) (List.mem_of_getElem? (i := 2) rfl)) rfl (fun (hc185 : p0 < p1) => ?_) (fun (hc185 : ¬ (p0 < p1)) => ?_)
  · refine zp_const (pc := 14) hx hb (zd_X11_isWithin (14, .iconst 0, 1, 0, []) (List.mem_of_getElem? (i := 8) rfl)) rfl rfl ?_
    refine zp_zret (pc := 15) (n := 0) hx hb hE hQ hU5 rfl (by decide) (zd_X11_isWithin (15, .ireturn, 1, 0, []) (List.mem_of_getElem? (i := 9) rfl)) (j := 0) rfl (zp_o0 (by omega) (by omega) (by omega) (by omega)) ?_
    rw [hps]
    refine ⟨rfl, rfl, ?_⟩
    show (0 = 1 ↔ p1 ≤ p0 ∧ p0 ≤ p2)
    omega
  · refine zp_load (pc := 5) hx hb (zd_X11_isWithin (5, .iload_n 0, 1, 0, []) (List.mem_of_getElem? (i := 3) rfl)) rfl (j := 0) rfl ?_
    refine zp_load (pc := 6) hx hb (zd_X11_isWithin (6, .iload_n 2, 1, 0, []) (List.mem_of_getElem? (i := 4) rfl)) rfl (j := 2) rfl ?_
    refine zp_icmp (pc := 7) (tgt := 14) hx hb (zd_X11_isWithin (7, .if_icmp .gt 7, 3, 0, []) (List.mem_of_getElem? (i := 5) rfl)) rfl (fun (hc186 : p2 < p0) => ?_) (fun (hc186 : ¬ (p2 < p0)) => ?_)
    · refine zp_const (pc := 14) hx hb (zd_X11_isWithin (14, .iconst 0, 1, 0, []) (List.mem_of_getElem? (i := 8) rfl)) rfl rfl ?_
      refine zp_zret (pc := 15) (n := 0) hx hb hE hQ hU5 rfl (by decide) (zd_X11_isWithin (15, .ireturn, 1, 0, []) (List.mem_of_getElem? (i := 9) rfl)) (j := 0) rfl (zp_o0 (by omega) (by omega) (by omega) (by omega)) ?_
      rw [hps]
      refine ⟨rfl, rfl, ?_⟩
      show (0 = 1 ↔ p1 ≤ p0 ∧ p0 ≤ p2)
      omega
    · refine zp_const (pc := 10) hx hb (zd_X11_isWithin (10, .iconst 1, 1, 0, []) (List.mem_of_getElem? (i := 6) rfl)) rfl rfl ?_
      refine zp_goto (tgt := 15) (pc := 11) hx hb (zd_X11_isWithin (11, .goto 4, 3, 0, []) (List.mem_of_getElem? (i := 7) rfl)) rfl ?_
      refine zp_zret (pc := 15) (n := 1) hx hb hE hQ hU5 rfl (by decide) (zd_X11_isWithin (15, .ireturn, 1, 0, []) (List.mem_of_getElem? (i := 9) rfl)) (j := 0) rfl (zp_o0 (by omega) (by omega) (by omega) (by omega)) ?_
      rw [hps]
      refine ⟨rfl, rfl, ?_⟩
      show (1 = 1 ↔ p1 ≤ p0 ∧ p0 ≤ p2)
      omega
noncomputable def zK_gt : zk_K := (zt_mn 169, prog_1_method_44_code, 2, (Option.some Jvm.ClassFile.FieldType.int), 1, 11, [(2, 12, 0, 0), (0, 0, (-2147483648), 2147483647)], [(some (0, 0, (-2147483648), 2147483647), [])], [], (1, 40, 0, 0))
noncomputable def zψ_gt : (Nat → Option Nat) → (Nat → Nat → Int) → List Int → (Nat → Option Nat) → (Nat → Nat → Int) → Int → Prop := fun P G ps P' G' rn => P' = P ∧ rn = if 0 ≤ ps.getD 1 0 ∧ ps.getD 1 0 ≤ 12 then (12 - ps.getD 1 0) % 4 else -1
theorem zX_gt {l : Launch} {w : zk_W} (hW : zh_W w) : zk_metX l w zt_dv zt_TB zK_gt (zp_A zp_tA) (zp_B zψ_gt) ∧ zk_cok w zt_TB zK_gt := by
  refine zp_methW hW (pl := 1280) rfl (by decide +kernel) (fun p e R s m args below meth c Q u hx hb hE hQ hU5 heff hnL hok hφ => ?_)
  have hw := hW.1
  obtain ⟨p0, p1, hps, k0, k1⟩ := zp_ps2 hok
  obtain ⟨a, rfl, hp⟩ := zp_this k0
  have hrm : zk_Kr (zk_ev (zp_EW zK_gt)) = zk_Kr zK_gt := rfl
  rw [hps] at hφ ⊢
  have hi1 := zp_int k1
  show zp_J p l e R s m args below meth c Q w u [] 0 [(0, 2, (a : Int)), (1, 0, p1)] [] u.1 (zp_n u.2.1)
  refine zp_load (pc := 0) hx hb (zd_X11_game (0, .iload_n 1, 1, 0, []) (List.mem_of_getElem? (i := 0) rfl)) rfl (j := 1) rfl ?_
  refine zp_const (pc := 1) hx hb (zd_X11_game (1, .iconst 0, 1, 0, []) (List.mem_of_getElem? (i := 1) rfl)) rfl rfl ?_
  refine zp_const (pc := 2) hx hb (zd_X11_game (2, .bipush 12, 2, 0, []) (List.mem_of_getElem? (i := 2) rfl)) rfl rfl ?_
  refine zp_call (pc := 4) (how := 1) (idx := 107) (mi := 15) (S := []) hx hb hE hw heff hrm (zX_iw hW) rfl (j := 10) rfl rfl (by decide +kernel) (zd_X11_game (4, .invokestatic 107, 3, 0, []) (List.mem_of_getElem? (i := 3) rfl)) [p1, 0, 12] rfl ⟨k1, zp_o0 (by decide) (by decide) (by decide) (by decide), zp_o0 (by decide) (by decide) (by decide) (by decide), trivial⟩ (Nat.le_of_ble_eq_true rfl) trivial (fun al hal rni Pi Gi hexti hfri hoki hcsi hpsii => ?_)
  obtain rfl := List.mem_singleton.mp hal
  have hri := zp_int (hoki _ rfl).1
  obtain ⟨hPei, hGei, hti⟩ := hpsii
  rw [hPei, hGei]
  have hti : rni = 1 ↔ 0 ≤ p1 ∧ p1 ≤ 12 := hti
  refine zp_if (pc := 7) (tgt := 12) hx hb (zd_X11_game (7, .ifCond .ne 5, 3, 0, []) (List.mem_of_getElem? (i := 4) rfl)) rfl (fun (hc187 : ¬ rni = 0) => ?_) (fun (hc187 : ¬ (¬ rni = 0)) => ?_)
  · refine zp_const (pc := 12) hx hb (zd_X11_game (12, .bipush 12, 2, 0, []) (List.mem_of_getElem? (i := 7) rfl)) rfl rfl ?_
    refine zp_load (pc := 14) hx hb (zd_X11_game (14, .iload_n 1, 1, 0, []) (List.mem_of_getElem? (i := 8) rfl)) rfl (j := 1) rfl ?_
    refine zp_sub (n := (12 - p1)) (pc := 15) hx hb (zd_X11_game (15, .isub, 1, 0, []) (List.mem_of_getElem? (i := 9) rfl)) (by omega) (zp_r0 (by omega) (by omega)) ?_
    refine zp_const (pc := 16) hx hb (zd_X11_game (16, .iconst 4, 1, 0, []) (List.mem_of_getElem? (i := 10) rfl)) rfl rfl ?_
    refine zp_irem4 (pc := 17) hx hb (zd_X11_game (17, .irem, 1, 0, []) (List.mem_of_getElem? (i := 11) rfl)) (by omega) (by omega) ?_
    refine zp_iret (pc := 18) (n := ((12 - p1) % 4)) hx hb hE hQ hU5 rfl (by decide) (zd_X11_game (18, .ireturn, 1, 0, []) (List.mem_of_getElem? (i := 12) rfl)) (j := 0) rfl (zp_o0 (by omega) (by omega) (by omega) (by omega)) ?_
    rw [hps]
    refine ⟨rfl, ?_⟩
    show ((12 - p1) % 4) = if 0 ≤ p1 ∧ p1 ≤ 12 then (12 - p1) % 4 else -1
    rw [if_pos ⟨by omega, by omega⟩]
  · refine zp_const (pc := 10) hx hb (zd_X11_game (10, .iconst (-1), 1, 0, []) (List.mem_of_getElem? (i := 5) rfl)) rfl rfl ?_
    refine zp_iret (pc := 11) (n := (-1)) hx hb hE hQ hU5 rfl (by decide) (zd_X11_game (11, .ireturn, 1, 0, []) (List.mem_of_getElem? (i := 6) rfl)) (j := 0) rfl (zp_o0 (by omega) (by omega) (by omega) (by omega)) ?_
    rw [hps]
    refine ⟨rfl, ?_⟩
    show -1 = if 0 ≤ p1 ∧ p1 ≤ 12 then (12 - p1) % 4 else -1
    rw [if_neg (by omega)]
