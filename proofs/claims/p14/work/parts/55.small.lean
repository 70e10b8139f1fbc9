/-! part 55: the parser: small methods -/
noncomputable def zbinds (op : Int) : Int := if 31 ≤ op then 0 else if op = 30 then 1 else if op = 29 then 2 else if op = 28 then 3 else if 25 ≤ op then 4 else if 22 ≤ op then 6 else 5
noncomputable def zK_bi : zk_K := (zt_mn 230, prog_14_method_46_code, 1, (Option.some Jvm.ClassFile.FieldType.int), 0, 12, [(0, 0, (-2147483648), 2147483647)], [(some (0, 0, 0, 6), [])], [], (0, 0, 0, 0))
noncomputable def zψ_bi : (Nat → Option Nat) → (Nat → Nat → Int) → List Int → (Nat → Option Nat) → (Nat → Nat → Int) → Int → Prop := fun P G ps P' G' rn => P' = P ∧ G' = G ∧ rn = zbinds (ps.getD 0 0)
theorem zX_bi {l : Launch} {w : zk_W} (hW : zh_W w) : zk_metX l w zt_dv zt_TB zK_bi (zp_A zp_tA) (zp_B zψ_bi) ∧ zk_cok w zt_TB zK_bi := by
  refine zp_meth hW (pl := 1761) rfl (by decide +kernel) (fun p e R s m args below meth c Q u hx hb hE hQ h5 heff hnL hok hφ => ?_)
  have hw := hW.1
  obtain ⟨p0, hps, k0⟩ := zp_ps1 hok
  rw [hps]
  have hi0 := zp_int k0
  show zp_J p l e R s m args below meth c Q w u [] 0 [(0, 0, p0)] [] u.1 (zp_n u.2.1)
  refine zp_load (pc := 0) hx hb (zd_X12_binds (0, .iload_n 0, 1, 0, []) (List.mem_of_getElem? (i := 0) rfl)) rfl (j := 0) rfl ?_
  refine zp_const (pc := 1) hx hb (zd_X12_binds (1, .bipush 31, 2, 0, []) (List.mem_of_getElem? (i := 1) rfl)) rfl rfl ?_
  refine zp_icmp (pc := 3) (tgt := 10) hx hb (zd_X12_binds (3, .if_icmp .lt 7, 3, 0, []) (List.mem_of_getElem? (i := 2) rfl)) rfl (fun (hc1 : p0 < 31) => ?_) (fun (hc1 : ¬ (p0 < 31)) => ?_)
  · refine zp_load (pc := 10) hx hb (zd_X12_binds (10, .iload_n 0, 1, 0, []) (List.mem_of_getElem? (i := 5) rfl)) rfl (j := 0) rfl ?_
    refine zp_const (pc := 11) hx hb (zd_X12_binds (11, .bipush 30, 2, 0, []) (List.mem_of_getElem? (i := 6) rfl)) rfl rfl ?_
    refine zp_icmp (pc := 13) (tgt := 20) hx hb (zd_X12_binds (13, .if_icmp .ne 7, 3, 0, []) (List.mem_of_getElem? (i := 7) rfl)) rfl (fun (hc2 : ¬ p0 = 30) => ?_) (fun (hc2 : ¬ (¬ p0 = 30)) => ?_)
    · refine zp_load (pc := 20) hx hb (zd_X12_binds (20, .iload_n 0, 1, 0, []) (List.mem_of_getElem? (i := 10) rfl)) rfl (j := 0) rfl ?_
      refine zp_const (pc := 21) hx hb (zd_X12_binds (21, .bipush 29, 2, 0, []) (List.mem_of_getElem? (i := 11) rfl)) rfl rfl ?_
      refine zp_icmp (pc := 23) (tgt := 30) hx hb (zd_X12_binds (23, .if_icmp .ne 7, 3, 0, []) (List.mem_of_getElem? (i := 12) rfl)) rfl (fun (hc3 : ¬ p0 = 29) => ?_) (fun (hc3 : ¬ (¬ p0 = 29)) => ?_)
      · refine zp_load (pc := 30) hx hb (zd_X12_binds (30, .iload_n 0, 1, 0, []) (List.mem_of_getElem? (i := 15) rfl)) rfl (j := 0) rfl ?_
        refine zp_const (pc := 31) hx hb (zd_X12_binds (31, .bipush 28, 2, 0, []) (List.mem_of_getElem? (i := 16) rfl)) rfl rfl ?_
        refine zp_icmp (pc := 33) (tgt := 40) hx hb (zd_X12_binds (33, .if_icmp .ne 7, 3, 0, []) (List.mem_of_getElem? (i := 17) rfl)) rfl (fun (hc4 : ¬ p0 = 28) => ?_) (fun (hc4 : ¬ (¬ p0 = 28)) => ?_)
        · refine zp_load (pc := 40) hx hb (zd_X12_binds (40, .iload_n 0, 1, 0, []) (List.mem_of_getElem? (i := 20) rfl)) rfl (j := 0) rfl ?_
          refine zp_const (pc := 41) hx hb (zd_X12_binds (41, .bipush 25, 2, 0, []) (List.mem_of_getElem? (i := 21) rfl)) rfl rfl ?_
          refine zp_icmp (pc := 43) (tgt := 50) hx hb (zd_X12_binds (43, .if_icmp .lt 7, 3, 0, []) (List.mem_of_getElem? (i := 22) rfl)) rfl (fun (hc5 : p0 < 25) => ?_) (fun (hc5 : ¬ (p0 < 25)) => ?_)
          · refine zp_load (pc := 50) hx hb (zd_X12_binds (50, .iload_n 0, 1, 0, []) (List.mem_of_getElem? (i := 25) rfl)) rfl (j := 0) rfl ?_
            refine zp_const (pc := 51) hx hb (zd_X12_binds (51, .bipush 22, 2, 0, []) (List.mem_of_getElem? (i := 26) rfl)) rfl rfl ?_
            refine zp_icmp (pc := 53) (tgt := 61) hx hb (zd_X12_binds (53, .if_icmp .lt 8, 3, 0, []) (List.mem_of_getElem? (i := 27) rfl)) rfl (fun (hc6 : p0 < 22) => ?_) (fun (hc6 : ¬ (p0 < 22)) => ?_)
            · refine zp_const (pc := 61) hx hb (zd_X12_binds (61, .iconst 5, 1, 0, []) (List.mem_of_getElem? (i := 30) rfl)) rfl rfl ?_
              refine zp_iret (pc := 62) (n := 5) hx hb hE hQ h5 rfl (by decide) (zd_X12_binds (62, .ireturn, 1, 0, []) (List.mem_of_getElem? (i := 31) rfl)) (j := 0) rfl (zp_o0 (by omega) (by omega) (by omega) (by omega)) ?_
              rw [hps]
              refine ⟨rfl, rfl, ?_⟩
              show 5 = zbinds p0
              unfold zbinds
              repeat' split
              all_goals omega
            · refine zp_const (pc := 56) hx hb (zd_X12_binds (56, .bipush 6, 2, 0, []) (List.mem_of_getElem? (i := 28) rfl)) rfl rfl ?_
              refine zp_goto (tgt := 62) (pc := 58) hx hb (zd_X12_binds (58, .goto 4, 3, 0, []) (List.mem_of_getElem? (i := 29) rfl)) rfl ?_
              refine zp_iret (pc := 62) (n := 6) hx hb hE hQ h5 rfl (by decide) (zd_X12_binds (62, .ireturn, 1, 0, []) (List.mem_of_getElem? (i := 31) rfl)) (j := 0) rfl (zp_o0 (by omega) (by omega) (by omega) (by omega)) ?_
              rw [hps]
              refine ⟨rfl, rfl, ?_⟩
              show 6 = zbinds p0
              unfold zbinds
              repeat' split
              all_goals omega
          · refine zp_const (pc := 46) hx hb (zd_X12_binds (46, .iconst 4, 1, 0, []) (List.mem_of_getElem? (i := 23) rfl)) rfl rfl ?_
            refine zp_goto (tgt := 62) (pc := 47) hx hb (zd_X12_binds (47, .goto 15, 3, 0, []) (List.mem_of_getElem? (i := 24) rfl)) rfl ?_
            refine zp_iret (pc := 62) (n := 4) hx hb hE hQ h5 rfl (by decide) (zd_X12_binds (62, .ireturn, 1, 0, []) (List.mem_of_getElem? (i := 31) rfl)) (j := 0) rfl (zp_o0 (by omega) (by omega) (by omega) (by omega)) ?_
            rw [hps]
            refine ⟨rfl, rfl, ?_⟩
            show 4 = zbinds p0
            unfold zbinds
            repeat' split
            all_goals omega
        · refine zp_const (pc := 36) hx hb (zd_X12_binds (36, .iconst 3, 1, 0, []) (List.mem_of_getElem? (i := 18) rfl)) rfl rfl ?_
          refine zp_goto (tgt := 62) (pc := 37) hx hb (zd_X12_binds (37, .goto 25, 3, 0, []) (List.mem_of_getElem? (i := 19) rfl)) rfl ?_
          refine zp_iret (pc := 62) (n := 3) hx hb hE hQ h5 rfl (by decide) (zd_X12_binds (62, .ireturn, 1, 0, []) (List.mem_of_getElem? (i := 31) rfl)) (j := 0) rfl (zp_o0 (by omega) (by omega) (by omega) (by omega)) ?_
          rw [hps]
          refine ⟨rfl, rfl, ?_⟩
          show 3 = zbinds p0
          unfold zbinds
          repeat' split
          all_goals omega
      · refine zp_const (pc := 26) hx hb (zd_X12_binds (26, .iconst 2, 1, 0, []) (List.mem_of_getElem? (i := 13) rfl)) rfl rfl ?_
        refine zp_goto (tgt := 62) (pc := 27) hx hb (zd_X12_binds (27, .goto 35, 3, 0, []) (List.mem_of_getElem? (i := 14) rfl)) rfl ?_
        refine zp_iret (pc := 62) (n := 2) hx hb hE hQ h5 rfl (by decide) (zd_X12_binds (62, .ireturn, 1, 0, []) (List.mem_of_getElem? (i := 31) rfl)) (j := 0) rfl (zp_o0 (by omega) (by omega) (by omega) (by omega)) ?_
        rw [hps]
        refine ⟨rfl, rfl, ?_⟩
        show 2 = zbinds p0
        unfold zbinds
        repeat' split
        all_goals omega
    · refine zp_const (pc := 16) hx hb (zd_X12_binds (16, .iconst 1, 1, 0, []) (List.mem_of_getElem? (i := 8) rfl)) rfl rfl ?_
      refine zp_goto (tgt := 62) (pc := 17) hx hb (zd_X12_binds (17, .goto 45, 3, 0, []) (List.mem_of_getElem? (i := 9) rfl)) rfl ?_
      refine zp_iret (pc := 62) (n := 1) hx hb hE hQ h5 rfl (by decide) (zd_X12_binds (62, .ireturn, 1, 0, []) (List.mem_of_getElem? (i := 31) rfl)) (j := 0) rfl (zp_o0 (by omega) (by omega) (by omega) (by omega)) ?_
      rw [hps]
      refine ⟨rfl, rfl, ?_⟩
      show 1 = zbinds p0
      unfold zbinds
      repeat' split
      all_goals omega
  · refine zp_const (pc := 6) hx hb (zd_X12_binds (6, .iconst 0, 1, 0, []) (List.mem_of_getElem? (i := 3) rfl)) rfl rfl ?_
    refine zp_goto (tgt := 62) (pc := 7) hx hb (zd_X12_binds (7, .goto 55, 3, 0, []) (List.mem_of_getElem? (i := 4) rfl)) rfl ?_
    refine zp_iret (pc := 62) (n := 0) hx hb hE hQ h5 rfl (by decide) (zd_X12_binds (62, .ireturn, 1, 0, []) (List.mem_of_getElem? (i := 31) rfl)) (j := 0) rfl (zp_o0 (by omega) (by omega) (by omega) (by omega)) ?_
    rw [hps]
    refine ⟨rfl, rfl, ?_⟩
    show 0 = zbinds p0
    unfold zbinds
    repeat' split
    all_goals omega
noncomputable def zK_sm : zk_K := (zt_mn 213, prog_14_method_35_code, 1, (Option.some Jvm.ClassFile.FieldType.boolean), 0, 12, [(0, 0, (-2147483648), 2147483647)], [(some (0, 0, 0, 1), [])], [], (0, 0, 0, 0))
noncomputable def zψ_sm : (Nat → Option Nat) → (Nat → Nat → Int) → List Int → (Nat → Option Nat) → (Nat → Nat → Int) → Int → Prop := fun P G ps P' G' rn => P' = P ∧ G' = G ∧ ((97 ≤ ps.getD 0 0 ∧ ps.getD 0 0 ≤ 122) ↔ rn = 1)
theorem zX_sm {l : Launch} {w : zk_W} (hW : zh_W w) : zk_metX l w zt_dv zt_TB zK_sm (zp_A zp_tA) (zp_B zψ_sm) ∧ zk_cok w zt_TB zK_sm := by
  refine zp_meth hW (pl := 1687) rfl (by decide +kernel) (fun p e R s m args below meth c Q u hx hb hE hQ h5 heff hnL hok hφ => ?_)
  have hw := hW.1
  obtain ⟨p0, hps, k0⟩ := zp_ps1 hok
  rw [hps]
  have hi0 := zp_int k0
  show zp_J p l e R s m args below meth c Q w u [] 0 [(0, 0, p0)] [] u.1 (zp_n u.2.1)
  refine zp_load (pc := 0) hx hb (zd_X12_isSmall (0, .iload_n 0, 1, 0, []) (List.mem_of_getElem? (i := 0) rfl)) rfl (j := 0) rfl ?_
  refine zp_const (pc := 1) hx hb (zd_X12_isSmall (1, .bipush 97, 2, 0, []) (List.mem_of_getElem? (i := 1) rfl)) rfl rfl ?_
  refine zp_icmp (pc := 3) (tgt := 16) hx hb (zd_X12_isSmall (3, .if_icmp .lt 13, 3, 0, []) (List.mem_of_getElem? (i := 2) rfl)) rfl (fun (hc7 : p0 < 97) => ?_) (fun (hc7 : ¬ (p0 < 97)) => ?_)
  · refine zp_const (pc := 16) hx hb (zd_X12_isSmall (16, .iconst 0, 1, 0, []) (List.mem_of_getElem? (i := 8) rfl)) rfl rfl ?_
    refine zp_zret (pc := 17) (n := 0) hx hb hE hQ h5 rfl (by decide) (zd_X12_isSmall (17, .ireturn, 1, 0, []) (List.mem_of_getElem? (i := 9) rfl)) (j := 0) rfl (zp_o0 (by omega) (by omega) (by omega) (by omega)) ?_
    rw [hps]
    refine ⟨rfl, rfl, ?_⟩
    show (97 ≤ p0 ∧ p0 ≤ 122) ↔ 0 = 1
    omega
  · refine zp_load (pc := 6) hx hb (zd_X12_isSmall (6, .iload_n 0, 1, 0, []) (List.mem_of_getElem? (i := 3) rfl)) rfl (j := 0) rfl ?_
    refine zp_const (pc := 7) hx hb (zd_X12_isSmall (7, .bipush 122, 2, 0, []) (List.mem_of_getElem? (i := 4) rfl)) rfl rfl ?_
    refine zp_icmp (pc := 9) (tgt := 16) hx hb (zd_X12_isSmall (9, .if_icmp .gt 7, 3, 0, []) (List.mem_of_getElem? (i := 5) rfl)) rfl (fun (hc8 : 122 < p0) => ?_) (fun (hc8 : ¬ (122 < p0)) => ?_)
    · refine zp_const (pc := 16) hx hb (zd_X12_isSmall (16, .iconst 0, 1, 0, []) (List.mem_of_getElem? (i := 8) rfl)) rfl rfl ?_
      refine zp_zret (pc := 17) (n := 0) hx hb hE hQ h5 rfl (by decide) (zd_X12_isSmall (17, .ireturn, 1, 0, []) (List.mem_of_getElem? (i := 9) rfl)) (j := 0) rfl (zp_o0 (by omega) (by omega) (by omega) (by omega)) ?_
      rw [hps]
      refine ⟨rfl, rfl, ?_⟩
      show (97 ≤ p0 ∧ p0 ≤ 122) ↔ 0 = 1
      omega
    · refine zp_const (pc := 12) hx hb (zd_X12_isSmall (12, .iconst 1, 1, 0, []) (List.mem_of_getElem? (i := 6) rfl)) rfl rfl ?_
      refine zp_goto (tgt := 17) (pc := 13) hx hb (zd_X12_isSmall (13, .goto 4, 3, 0, []) (List.mem_of_getElem? (i := 7) rfl)) rfl ?_
      refine zp_zret (pc := 17) (n := 1) hx hb hE hQ h5 rfl (by decide) (zd_X12_isSmall (17, .ireturn, 1, 0, []) (List.mem_of_getElem? (i := 9) rfl)) (j := 0) rfl (zp_o0 (by omega) (by omega) (by omega) (by omega)) ?_
      rw [hps]
      refine ⟨rfl, rfl, ?_⟩
      show (97 ≤ p0 ∧ p0 ≤ 122) ↔ 1 = 1
      omega
noncomputable def zK_dg : zk_K := (zt_mn 214, prog_14_method_36_code, 1, (Option.some Jvm.ClassFile.FieldType.boolean), 0, 12, [(0, 0, (-2147483648), 2147483647)], [(some (0, 0, 0, 1), [])], [], (0, 0, 0, 0))
noncomputable def zψ_dg : (Nat → Option Nat) → (Nat → Nat → Int) → List Int → (Nat → Option Nat) → (Nat → Nat → Int) → Int → Prop := fun P G ps P' G' rn => P' = P ∧ G' = G ∧ ((48 ≤ ps.getD 0 0 ∧ ps.getD 0 0 ≤ 57) ↔ rn = 1)
theorem zX_dg {l : Launch} {w : zk_W} (hW : zh_W w) : zk_metX l w zt_dv zt_TB zK_dg (zp_A zp_tA) (zp_B zψ_dg) ∧ zk_cok w zt_TB zK_dg := by
  refine zp_meth hW (pl := 1690) rfl (by decide +kernel) (fun p e R s m args below meth c Q u hx hb hE hQ h5 heff hnL hok hφ => ?_)
  have hw := hW.1
  obtain ⟨p0, hps, k0⟩ := zp_ps1 hok
  rw [hps]
  have hi0 := zp_int k0
  show zp_J p l e R s m args below meth c Q w u [] 0 [(0, 0, p0)] [] u.1 (zp_n u.2.1)
  refine zp_load (pc := 0) hx hb (zd_X12_isDigit (0, .iload_n 0, 1, 0, []) (List.mem_of_getElem? (i := 0) rfl)) rfl (j := 0) rfl ?_
  refine zp_const (pc := 1) hx hb (zd_X12_isDigit (1, .bipush 48, 2, 0, []) (List.mem_of_getElem? (i := 1) rfl)) rfl rfl ?_
  refine zp_icmp (pc := 3) (tgt := 16) hx hb (zd_X12_isDigit (3, .if_icmp .lt 13, 3, 0, []) (List.mem_of_getElem? (i := 2) rfl)) rfl (fun (hc9 : p0 < 48) => ?_) (fun (hc9 : ¬ (p0 < 48)) => ?_)
  · refine zp_const (pc := 16) hx hb (zd_X12_isDigit (16, .iconst 0, 1, 0, []) (List.mem_of_getElem? (i := 8) rfl)) rfl rfl ?_
    refine zp_zret (pc := 17) (n := 0) hx hb hE hQ h5 rfl (by decide) (zd_X12_isDigit (17, .ireturn, 1, 0, []) (List.mem_of_getElem? (i := 9) rfl)) (j := 0) rfl (zp_o0 (by omega) (by omega) (by omega) (by omega)) ?_
    rw [hps]
    refine ⟨rfl, rfl, ?_⟩
    show (48 ≤ p0 ∧ p0 ≤ 57) ↔ 0 = 1
    omega
  · refine zp_load (pc := 6) hx hb (zd_X12_isDigit (6, .iload_n 0, 1, 0, []) (List.mem_of_getElem? (i := 3) rfl)) rfl (j := 0) rfl ?_
    refine zp_const (pc := 7) hx hb (zd_X12_isDigit (7, .bipush 57, 2, 0, []) (List.mem_of_getElem? (i := 4) rfl)) rfl rfl ?_
    refine zp_icmp (pc := 9) (tgt := 16) hx hb (zd_X12_isDigit (9, .if_icmp .gt 7, 3, 0, []) (List.mem_of_getElem? (i := 5) rfl)) rfl (fun (hc10 : 57 < p0) => ?_) (fun (hc10 : ¬ (57 < p0)) => ?_)
    · refine zp_const (pc := 16) hx hb (zd_X12_isDigit (16, .iconst 0, 1, 0, []) (List.mem_of_getElem? (i := 8) rfl)) rfl rfl ?_
      refine zp_zret (pc := 17) (n := 0) hx hb hE hQ h5 rfl (by decide) (zd_X12_isDigit (17, .ireturn, 1, 0, []) (List.mem_of_getElem? (i := 9) rfl)) (j := 0) rfl (zp_o0 (by omega) (by omega) (by omega) (by omega)) ?_
      rw [hps]
      refine ⟨rfl, rfl, ?_⟩
      show (48 ≤ p0 ∧ p0 ≤ 57) ↔ 0 = 1
      omega
    · refine zp_const (pc := 12) hx hb (zd_X12_isDigit (12, .iconst 1, 1, 0, []) (List.mem_of_getElem? (i := 6) rfl)) rfl rfl ?_
      refine zp_goto (tgt := 17) (pc := 13) hx hb (zd_X12_isDigit (13, .goto 4, 3, 0, []) (List.mem_of_getElem? (i := 7) rfl)) rfl ?_
      refine zp_zret (pc := 17) (n := 1) hx hb hE hQ h5 rfl (by decide) (zd_X12_isDigit (17, .ireturn, 1, 0, []) (List.mem_of_getElem? (i := 9) rfl)) (j := 0) rfl (zp_o0 (by omega) (by omega) (by omega) (by omega)) ?_
      rw [hps]
      refine ⟨rfl, rfl, ?_⟩
      show (48 ≤ p0 ∧ p0 ≤ 57) ↔ 1 = 1
      omega
noncomputable def zK_in : zk_K := (zt_mn 186, prog_14_method_3_code, 6, (Option.some Jvm.ClassFile.FieldType.boolean), 0, 12, [(1, 0, (-9223372036854775808), 9223372036854775807), (1, 0, (-9223372036854775808), 9223372036854775807), (1, 0, (-9223372036854775808), 9223372036854775807)], [(some (0, 0, 0, 1), [])], [], (0, 0, 0, 0))
noncomputable def zψ_in : (Nat → Option Nat) → (Nat → Nat → Int) → List Int → (Nat → Option Nat) → (Nat → Nat → Int) → Int → Prop := fun P G ps P' G' rn => P' = P ∧ G' = G ∧ (rn = 1 → ps.getD 1 0 ≤ ps.getD 0 0 ∧ ps.getD 0 0 ≤ ps.getD 2 0)
theorem zX_in {l : Launch} {w : zk_W} (hW : zh_W w) : zk_metX l w zt_dv zt_TB zK_in (zp_A zp_tA) (zp_B zψ_in) ∧ zk_cok w zt_TB zK_in := by
  refine zp_meth hW (pl := 1572) rfl (by decide +kernel) (fun p e R s m args below meth c Q u hx hb hE hQ h5 heff hnL hok hφ => ?_)
  have hw := hW.1
  obtain ⟨p0, p1, p2, hps, k0, k1, k2⟩ := zp_ps3 hok
  rw [hps]
  show zp_J p l e R s m args below meth c Q w u [] 0 [(0, 1, p0), (2, 1, p1), (4, 1, p2)] [] u.1 (zp_n u.2.1)
  refine zp_load (pc := 0) hx hb (zd_X12_in (0, .lload_n 0, 1, 0, []) (List.mem_of_getElem? (i := 0) rfl)) rfl (j := 0) rfl ?_
  refine zp_load (pc := 1) hx hb (zd_X12_in (1, .lload_n 2, 1, 0, []) (List.mem_of_getElem? (i := 1) rfl)) rfl (j := 1) rfl ?_
  refine zp_lcmp (pc := 2) (tgt := 17) hx hb (zd_X12_in (2, .lcmp, 1, 0, []) (List.mem_of_getElem? (i := 2) rfl)) (zd_X12_in (3, .ifCond .lt 14, 3, 0, []) (List.mem_of_getElem? (i := 3) rfl)) rfl (fun (hc11 : p0 < p1) => ?_) (fun (hc11 : ¬ (p0 < p1)) => ?_)
  · refine zp_const (pc := 17) hx hb (zd_X12_in (17, .iconst 0, 1, 0, []) (List.mem_of_getElem? (i := 10) rfl)) rfl rfl ?_
    refine zp_zret (pc := 18) (n := 0) hx hb hE hQ h5 rfl (by decide) (zd_X12_in (18, .ireturn, 1, 0, []) (List.mem_of_getElem? (i := 11) rfl)) (j := 0) rfl (zp_o0 (by omega) (by omega) (by omega) (by omega)) ?_
    rw [hps]
    refine ⟨rfl, rfl, ?_⟩
    show (0 = 1 → p1 ≤ p0 ∧ p0 ≤ p2)
    omega
  · refine zp_load (pc := 6) hx hb (zd_X12_in (6, .lload_n 0, 1, 0, []) (List.mem_of_getElem? (i := 4) rfl)) rfl (j := 0) rfl ?_
    refine zp_load (pc := 7) hx hb (zd_X12_in (7, .lload 4, 2, 0, []) (List.mem_of_getElem? (i := 5) rfl)) rfl (j := 2) rfl ?_
    refine zp_lcmp (pc := 9) (tgt := 17) hx hb (zd_X12_in (9, .lcmp, 1, 0, []) (List.mem_of_getElem? (i := 6) rfl)) (zd_X12_in (10, .ifCond .gt 7, 3, 0, []) (List.mem_of_getElem? (i := 7) rfl)) rfl (fun (hc12 : p2 < p0) => ?_) (fun (hc12 : ¬ (p2 < p0)) => ?_)
    · refine zp_const (pc := 17) hx hb (zd_X12_in (17, .iconst 0, 1, 0, []) (List.mem_of_getElem? (i := 10) rfl)) rfl rfl ?_
      refine zp_zret (pc := 18) (n := 0) hx hb hE hQ h5 rfl (by decide) (zd_X12_in (18, .ireturn, 1, 0, []) (List.mem_of_getElem? (i := 11) rfl)) (j := 0) rfl (zp_o0 (by omega) (by omega) (by omega) (by omega)) ?_
      rw [hps]
      refine ⟨rfl, rfl, ?_⟩
      show (0 = 1 → p1 ≤ p0 ∧ p0 ≤ p2)
      omega
    · refine zp_const (pc := 13) hx hb (zd_X12_in (13, .iconst 1, 1, 0, []) (List.mem_of_getElem? (i := 8) rfl)) rfl rfl ?_
      refine zp_goto (tgt := 18) (pc := 14) hx hb (zd_X12_in (14, .goto 4, 3, 0, []) (List.mem_of_getElem? (i := 9) rfl)) rfl ?_
      refine zp_zret (pc := 18) (n := 1) hx hb hE hQ h5 rfl (by decide) (zd_X12_in (18, .ireturn, 1, 0, []) (List.mem_of_getElem? (i := 11) rfl)) (j := 0) rfl (zp_o0 (by omega) (by omega) (by omega) (by omega)) ?_
      rw [hps]
      refine ⟨rfl, rfl, ?_⟩
      show (1 = 1 → p1 ≤ p0 ∧ p0 ≤ p2)
      omega
noncomputable def zK_wo : zk_K := (zt_mn 216, prog_14_method_39_code, 3, (Option.some Jvm.ClassFile.FieldType.boolean), 1, 12, [(2, 92, 0, 0), (1, 0, (-9223372036854775808), 9223372036854775807)], [(some (0, 0, 0, 1), [])], [], (0, 0, 0, 0))
noncomputable def zK_si : zk_K := (zt_mn 221, prog_14_method_40_code, 2, (Option.some Jvm.ClassFile.FieldType.boolean), 1, 12, [(2, 92, 0, 0), (0, 0, (-2147483648), 2147483647)], [(some (0, 0, 0, 1), [])], [], (0, 0, 0, 0))
noncomputable def zK_nn : zk_K := (zt_mn 232, prog_14_method_48_code, 3, (Option.some Jvm.ClassFile.FieldType.int), 1, 12, [(2, 92, 0, 0)], [(some (0, 0, (-1), 32), [])], [], (0, 0, 0, 0))