/-! part 8azf: force, exactly -/
def zK_fcs : zk_K := (zt_mn 117, prog_1_method_20_code, 3, (Option.some Jvm.ClassFile.FieldType.int), 1, 11, [(2, 12, 0, 0), (0, 0, (-2147483648), 2147483647)], [(some (0, 0, (-2147483648), 2147483647), [])], [(10, 15, 0), (12, 18, 0), (57, 1002, 0)], (1, 40, 0, 0))
def zψ_fcs : (Nat → Option Nat) → (Nat → Nat → Int) → List Int → (Nat → Option Nat) → (Nat → Nat → Int) → Int → Prop := fun P G ps P' G' rn => (((ps.getD 1 0) = -1 ∨ (0 ≤ (ps.getD 1 0) ∧ (ps.getD 1 0) < G (G (zp_0 ps) 0).toNat 14)) → rn = G (G (zp_0 ps) 0).toNat 15 ∧ G' (G (zp_0 ps) 0).toNat 15 = (ps.getD 1 0)) ∧ (¬ ((ps.getD 1 0) = -1 ∨ (0 ≤ (ps.getD 1 0) ∧ (ps.getD 1 0) < G (G (zp_0 ps) 0).toNat 14)) → rn = -2 ∧ G' (G (zp_0 ps) 0).toNat 15 = G (G (zp_0 ps) 0).toNat 15)
theorem zX_fcs {l : Launch} {w : zk_W} (hW : zh_W w) : zk_metX l w zt_dv zt_TB zK_fcs (zp_A zp_tA) (zp_B zψ_fcs) ∧ zk_cok w zt_TB zK_fcs := by
  refine zp_methX (cn := "WoundTown") zp_lkallW hW (pl := 1050) rfl (by decide +kernel) (fun p e R s m args below meth c Q u hx hb hE hQ hU5 heff hnL hok hφ => ?_)
  have hw := hW.1
  obtain ⟨p0, p1, hps, k0, k1⟩ := zp_ps2 hok
  obtain ⟨a, rfl, hp⟩ := zp_this k0
  have hrm : zk_Kr (zk_ev (zt_types, zp_lkW, zt_dv, [], [], zp_lcW, zK_fcs)) = zk_Kr zK_fcs := rfl
  rw [hps] at hφ ⊢
  have hi1 := zp_int k1
  show zp_J p l e R s m args below meth c Q w u [] 0 [(0, 2, (a : Int)), (1, 0, p1)] [] u.1 (zp_n u.2.1)
  refine zp_kn (k := 0) (a := a) hw (show zp_fd 12 0 = some (11, 2, 10, 0, 0) from rfl) rfl hp (fun hktn => ?_)
  obtain ⟨tn, htn, qtn⟩ := zp_this hktn
  refine zp_kn (k := 14) (a := tn) hw (show zp_fd 10 14 = some (9, 0, 0, 0, 6) from rfl) rfl qtn (fun hklk => ?_)
  obtain ⟨lk, hlk⟩ : ∃ z0 : Int, (zp_n u.2.1) tn 14 = z0 := ⟨_, rfl⟩
  have hlkb := zp_int hklk
  rw [hlk] at hlkb
  refine zp_kn (k := 15) (a := tn) hw (show zp_fd 10 15 = some (9, 0, 0, (-2147483648), 2147483647) from rfl) rfl qtn (fun hkfo => ?_)
  obtain ⟨fo, hfo⟩ : ∃ z0 : Int, (zp_n u.2.1) tn 15 = z0 := ⟨_, rfl⟩
  have hfob := zp_int hkfo
  rw [hfo] at hfob
  have htt : (zp_n u.2.1 a 0).toNat = tn := by rw [htn, Int.toNat_natCast]
  refine zp_load (pc := 0) hx hb (zd_X11_force (0, .iload_n 1, 1, 0, []) (List.mem_of_getElem? (i := 0) rfl)) rfl (j := 1) rfl ?_
  refine zp_const (pc := 1) hx hb (zd_X11_force (1, .iconst (-1), 1, 0, []) (List.mem_of_getElem? (i := 1) rfl)) rfl rfl ?_
  refine zp_icmp (pc := 2) (tgt := 29) hx hb (zd_X11_force (2, .if_icmp .eq 27, 3, 0, []) (List.mem_of_getElem? (i := 2) rfl)) rfl (fun (hc21 : p1 = (-1)) => ?_) (fun (hc21 : ¬ (p1 = (-1))) => ?_)
  · refine zp_load (pc := 29) hx hb (zd_X11_force (29, .aload_n 0, 1, 0, []) (List.mem_of_getElem? (i := 16) rfl)) rfl (j := 0) rfl ?_
    refine zp_getf (n := (tn : Int)) (pc := 30) hx hb hE hw (zd_X11_force (30, .getfield 10, 3, 0, []) (List.mem_of_getElem? (i := 17) rfl)) (j := 50) rfl rfl rfl hp htn ?_
    refine zp_getf (n := fo) (pc := 33) hx hb hE hw (zd_X11_force (33, .getfield 289, 3, 0, []) (List.mem_of_getElem? (i := 18) rfl)) (j := 21) rfl rfl rfl qtn hfo ?_
    refine zp_store (L' := [(2, 0, fo), (0, 2, (a : Int)), (1, 0, p1)]) (pc := 36) hx hb hnL (zd_X11_force (36, .istore_n 2, 1, 0, []) (List.mem_of_getElem? (i := 19) rfl)) rfl rfl rfl ?_
    refine zp_load (pc := 37) hx hb (zd_X11_force (37, .aload_n 0, 1, 0, []) (List.mem_of_getElem? (i := 20) rfl)) rfl (j := 1) rfl ?_
    refine zp_getf (n := (tn : Int)) (pc := 38) hx hb hE hw (zd_X11_force (38, .getfield 10, 3, 0, []) (List.mem_of_getElem? (i := 21) rfl)) (j := 50) rfl rfl rfl hp htn ?_
    refine zp_load (pc := 41) hx hb (zd_X11_force (41, .iload_n 1, 1, 0, []) (List.mem_of_getElem? (i := 22) rfl)) rfl (j := 2) rfl ?_
    refine zp_putf (pc := 42) hx hb hE hw heff (zd_X11_force (42, .putfield 289, 3, 0, []) (List.mem_of_getElem? (i := 23) rfl)) (j := 21) rfl rfl rfl qtn (zp_o0 (by omega) (by omega) (by omega) (by omega)) ?_
    refine zp_load (pc := 45) hx hb (zd_X11_force (45, .aload_n 0, 1, 0, []) (List.mem_of_getElem? (i := 24) rfl)) rfl (j := 1) rfl ?_
    refine zp_load (pc := 46) hx hb (zd_X11_force (46, .iload_n 2, 1, 0, []) (List.mem_of_getElem? (i := 25) rfl)) rfl (j := 0) rfl ?_
    refine zp_call (pc := 47) (how := 0) (idx := 118) (mi := 17) (S := []) hx hb hE hw heff hrm (zX_awd hW) rfl (j := 12) rfl rfl (by decide +kernel) (zd_X11_force (47, .invokevirtual 118, 3, 0, []) (List.mem_of_getElem? (i := 26) rfl)) [(a : Int), fo] rfl ⟨zp_o2 hp, zp_o0 (by omega) (by omega) (by omega) (by omega), trivial⟩ (Nat.le_of_ble_eq_true rfl) trivial (fun al hal rns1 Ps1 Gs1 hexts1 hfrs1 hoks1 hcss1 hpsis1 => ?_)
    obtain rfl := List.mem_singleton.mp hal
    have hrs1 := zp_int (hoks1 _ rfl).1
    have yas1 := hexts1 _ _ hp
    have ytns1 := hexts1 _ _ qtn
    have hts1 : rns1 = fo := hpsis1
    have ez0 : Gs1 tn 15 = p1 := ((zp_nf hfrs1 qtn rfl).trans zp_set_self)
    refine zp_iret (pc := 50) (n := rns1) hx hb hE hQ hU5 rfl (by decide) (zd_X11_force (50, .ireturn, 1, 0, []) (List.mem_of_getElem? (i := 27) rfl)) (j := 0) rfl (zp_o0 (by omega) (by omega) (by omega) (by omega)) ?_
    rw [hps]
    show ((p1 = -1 ∨ (0 ≤ p1 ∧ p1 < zp_n u.2.1 (zp_n u.2.1 a 0).toNat 14)) → rns1 = zp_n u.2.1 (zp_n u.2.1 a 0).toNat 15 ∧ Gs1 (zp_n u.2.1 a 0).toNat 15 = p1) ∧ (¬ (p1 = -1 ∨ (0 ≤ p1 ∧ p1 < zp_n u.2.1 (zp_n u.2.1 a 0).toNat 14)) → rns1 = -2 ∧ Gs1 (zp_n u.2.1 a 0).toNat 15 = zp_n u.2.1 (zp_n u.2.1 a 0).toNat 15)
    rw [htt]
    omega
  · refine zp_load (pc := 5) hx hb (zd_X11_force (5, .iload_n 1, 1, 0, []) (List.mem_of_getElem? (i := 3) rfl)) rfl (j := 1) rfl ?_
    refine zp_const (pc := 6) hx hb (zd_X11_force (6, .iconst 0, 1, 0, []) (List.mem_of_getElem? (i := 4) rfl)) rfl rfl ?_
    refine zp_load (pc := 7) hx hb (zd_X11_force (7, .aload_n 0, 1, 0, []) (List.mem_of_getElem? (i := 5) rfl)) rfl (j := 0) rfl ?_
    refine zp_getf (n := (tn : Int)) (pc := 8) hx hb hE hw (zd_X11_force (8, .getfield 10, 3, 0, []) (List.mem_of_getElem? (i := 6) rfl)) (j := 50) rfl rfl rfl hp htn ?_
    refine zp_getf (n := lk) (pc := 11) hx hb hE hw (zd_X11_force (11, .getfield 205, 3, 0, []) (List.mem_of_getElem? (i := 7) rfl)) (j := 20) rfl rfl rfl qtn hlk ?_
    refine zp_const (pc := 14) hx hb (zd_X11_force (14, .iconst 1, 1, 0, []) (List.mem_of_getElem? (i := 8) rfl)) rfl rfl ?_
    refine zp_sub (n := (lk - 1)) (pc := 15) hx hb (zd_X11_force (15, .isub, 1, 0, []) (List.mem_of_getElem? (i := 9) rfl)) (by omega) (zp_r0 (by omega) (by omega)) ?_
    refine zp_call (pc := 16) (how := 1) (idx := 107) (mi := 15) (S := []) hx hb hE hw heff hrm (zX_iwn hW) rfl (j := 10) rfl rfl (by decide +kernel) (zd_X11_force (16, .invokestatic 107, 3, 0, []) (List.mem_of_getElem? (i := 10) rfl)) [p1, 0, (lk - 1)] rfl ⟨zp_o0 (by omega) (by omega) (by omega) (by omega), zp_o0 (by omega) (by omega) (by omega) (by omega), zp_o0 (by omega) (by omega) (by omega) (by omega), trivial⟩ (Nat.le_of_ble_eq_true rfl) trivial (fun al hal rnw2 Pw2 Gw2 hextw2 hfrw2 hokw2 hcsw2 hpsiw2 => ?_)
    obtain rfl := List.mem_singleton.mp hal
    have hrw2 := zp_int (hokw2 _ rfl).1
    obtain ⟨hPew2, hGew2, htw2⟩ := hpsiw2
    have htw2 : rnw2 = 1 ↔ 0 ≤ p1 ∧ p1 ≤ (lk - 1) := htw2
    rw [hPew2, hGew2]
    refine zp_if (pc := 19) (tgt := 29) hx hb (zd_X11_force (19, .ifCond .ne 10, 3, 0, []) (List.mem_of_getElem? (i := 11) rfl)) rfl (fun (hc22 : ¬ rnw2 = 0) => ?_) (fun (hc22 : ¬ (¬ rnw2 = 0)) => ?_)
    · refine zp_load (pc := 29) hx hb (zd_X11_force (29, .aload_n 0, 1, 0, []) (List.mem_of_getElem? (i := 16) rfl)) rfl (j := 0) rfl ?_
      refine zp_getf (n := (tn : Int)) (pc := 30) hx hb hE hw (zd_X11_force (30, .getfield 10, 3, 0, []) (List.mem_of_getElem? (i := 17) rfl)) (j := 50) rfl rfl rfl hp htn ?_
      refine zp_getf (n := fo) (pc := 33) hx hb hE hw (zd_X11_force (33, .getfield 289, 3, 0, []) (List.mem_of_getElem? (i := 18) rfl)) (j := 21) rfl rfl rfl qtn hfo ?_
      refine zp_store (L' := [(2, 0, fo), (0, 2, (a : Int)), (1, 0, p1)]) (pc := 36) hx hb hnL (zd_X11_force (36, .istore_n 2, 1, 0, []) (List.mem_of_getElem? (i := 19) rfl)) rfl rfl rfl ?_
      refine zp_load (pc := 37) hx hb (zd_X11_force (37, .aload_n 0, 1, 0, []) (List.mem_of_getElem? (i := 20) rfl)) rfl (j := 1) rfl ?_
      refine zp_getf (n := (tn : Int)) (pc := 38) hx hb hE hw (zd_X11_force (38, .getfield 10, 3, 0, []) (List.mem_of_getElem? (i := 21) rfl)) (j := 50) rfl rfl rfl hp htn ?_
      refine zp_load (pc := 41) hx hb (zd_X11_force (41, .iload_n 1, 1, 0, []) (List.mem_of_getElem? (i := 22) rfl)) rfl (j := 2) rfl ?_
      refine zp_putf (pc := 42) hx hb hE hw heff (zd_X11_force (42, .putfield 289, 3, 0, []) (List.mem_of_getElem? (i := 23) rfl)) (j := 21) rfl rfl rfl qtn (zp_o0 (by omega) (by omega) (by omega) (by omega)) ?_
      refine zp_load (pc := 45) hx hb (zd_X11_force (45, .aload_n 0, 1, 0, []) (List.mem_of_getElem? (i := 24) rfl)) rfl (j := 1) rfl ?_
      refine zp_load (pc := 46) hx hb (zd_X11_force (46, .iload_n 2, 1, 0, []) (List.mem_of_getElem? (i := 25) rfl)) rfl (j := 0) rfl ?_
      refine zp_call (pc := 47) (how := 0) (idx := 118) (mi := 17) (S := []) hx hb hE hw heff hrm (zX_awd hW) rfl (j := 12) rfl rfl (by decide +kernel) (zd_X11_force (47, .invokevirtual 118, 3, 0, []) (List.mem_of_getElem? (i := 26) rfl)) [(a : Int), fo] rfl ⟨zp_o2 hp, zp_o0 (by omega) (by omega) (by omega) (by omega), trivial⟩ (Nat.le_of_ble_eq_true rfl) trivial (fun al hal rns3 Ps3 Gs3 hexts3 hfrs3 hoks3 hcss3 hpsis3 => ?_)
      obtain rfl := List.mem_singleton.mp hal
      have hrs3 := zp_int (hoks3 _ rfl).1
      have yas3 := hexts3 _ _ hp
      have ytns3 := hexts3 _ _ qtn
      have hts3 : rns3 = fo := hpsis3
      have ez0 : Gs3 tn 15 = p1 := ((zp_nf hfrs3 qtn rfl).trans zp_set_self)
      refine zp_iret (pc := 50) (n := rns3) hx hb hE hQ hU5 rfl (by decide) (zd_X11_force (50, .ireturn, 1, 0, []) (List.mem_of_getElem? (i := 27) rfl)) (j := 0) rfl (zp_o0 (by omega) (by omega) (by omega) (by omega)) ?_
      rw [hps]
      show ((p1 = -1 ∨ (0 ≤ p1 ∧ p1 < zp_n u.2.1 (zp_n u.2.1 a 0).toNat 14)) → rns3 = zp_n u.2.1 (zp_n u.2.1 a 0).toNat 15 ∧ Gs3 (zp_n u.2.1 a 0).toNat 15 = p1) ∧ (¬ (p1 = -1 ∨ (0 ≤ p1 ∧ p1 < zp_n u.2.1 (zp_n u.2.1 a 0).toNat 14)) → rns3 = -2 ∧ Gs3 (zp_n u.2.1 a 0).toNat 15 = zp_n u.2.1 (zp_n u.2.1 a 0).toNat 15)
      rw [htt]
      omega
    · refine zp_load (pc := 22) hx hb (zd_X11_force (22, .aload_n 0, 1, 0, []) (List.mem_of_getElem? (i := 12) rfl)) rfl (j := 0) rfl ?_
      refine zp_const (pc := 23) hx hb (zd_X11_force (23, .bipush (-2), 2, 0, []) (List.mem_of_getElem? (i := 13) rfl)) rfl rfl ?_
      refine zp_call (pc := 25) (how := 0) (idx := 111) (mi := 16) (S := []) hx hb hE hw heff hrm (zX_rfd hW) rfl (j := 11) rfl rfl (by decide +kernel) (zd_X11_force (25, .invokevirtual 111, 3, 0, []) (List.mem_of_getElem? (i := 14) rfl)) [(a : Int), (-2)] rfl ⟨zp_o2 hp, zp_o0 (by decide) (by decide) (by decide) (by decide), trivial⟩ (Nat.le_of_ble_eq_true rfl) trivial (fun al hal rnr4 Pr4 Gr4 hextr4 hfrr4 hokr4 hcsr4 hpsir4 => ?_)
      obtain rfl := List.mem_singleton.mp hal
      have hrr4 := zp_int (hokr4 _ rfl).1
      have yar4 := hextr4 _ _ hp
      have ytnr4 := hextr4 _ _ qtn
      have htr4 : rnr4 = (-2) := hpsir4
      have ez0 : Gr4 tn 15 = fo := ((zp_nf hfrr4 qtn rfl).trans hfo)
      refine zp_iret (pc := 28) (n := rnr4) hx hb hE hQ hU5 rfl (by decide) (zd_X11_force (28, .ireturn, 1, 0, []) (List.mem_of_getElem? (i := 15) rfl)) (j := 0) rfl (zp_o0 (by omega) (by omega) (by omega) (by omega)) ?_
      rw [hps]
      show ((p1 = -1 ∨ (0 ≤ p1 ∧ p1 < zp_n u.2.1 (zp_n u.2.1 a 0).toNat 14)) → rnr4 = zp_n u.2.1 (zp_n u.2.1 a 0).toNat 15 ∧ Gr4 (zp_n u.2.1 a 0).toNat 15 = p1) ∧ (¬ (p1 = -1 ∨ (0 ≤ p1 ∧ p1 < zp_n u.2.1 (zp_n u.2.1 a 0).toNat 14)) → rnr4 = -2 ∧ Gr4 (zp_n u.2.1 a 0).toNat 15 = zp_n u.2.1 (zp_n u.2.1 a 0).toNat 15)
      rw [htt]
      omega
def zK_mc4 : zk_K := (zt_mn 190, prog_14_method_8_code, 4, (Option.some Jvm.ClassFile.FieldType.int), 1, 12, [(2, 13, 0, 0), (0, 0, 4, 4), (0, 0, (-1), 5)], [(some (0, 0, (-1), 5), [])], [(13, 1, 0), (59, 4028, 0)], (0, 0, 0, 0))
def zψ_mc4 : (Nat → Option Nat) → (Nat → Nat → Int) → List Int → (Nat → Option Nat) → (Nat → Nat → Int) → Int → Prop := fun P G ps P' G' rn => P' = P ∧ rn = G (G (zp_0 ps) 3).toNat (2000 + 4) ∧ G' (G (zp_0 ps) 3).toNat (2000 + 4) = ps.getD 2 0
theorem zX_mc4 {l : Launch} {w : zk_W} (hW : zh_W w) : zk_metX l w zt_dv zt_TB zK_mc4 (zp_A zp_tA) (zp_B zψ_mc4) ∧ zk_cok w zt_TB zK_mc4 := by
  refine zp_methX (cn := "WoundTownModel") zp_lkall hW (pl := 1590) rfl (by decide +kernel) (fun p e R s m args below meth c Q u hx hb hE hQ hU5 heff hnL hok hφ => ?_)
  have hw := hW.1
  obtain ⟨p0, p1, p2, hps, k0, k1, k2⟩ := zp_ps3 hok
  obtain ⟨a, rfl, hp⟩ := zp_this k0
  have hrm : zk_Kr (zk_ev (zt_types, zp_lk, zt_dv, [], [], zp_lc, zK_mc4)) = zk_Kr zK_mc4 := rfl
  rw [hps] at hφ ⊢
  have hi1 := zp_int k1
  have hi2 := zp_int k2
  show zp_J p l e R s m args below meth c Q w u [] 0 [(0, 2, (a : Int)), (1, 0, p1), (2, 0, p2)] [] u.1 (zp_n u.2.1)
  refine zp_kn (k := 3) (a := a) hw (show zp_fd 13 3 = some (12, 2, 59, 0, 0) from rfl) rfl hp (fun hkrw_ => ?_)
  obtain ⟨rw_, hrw_, qrw_⟩ := zp_this hkrw_
  have qrw : u.1 rw_ = some 59 := qrw_
  have hrt : (zp_n u.2.1 a 3).toNat = rw_ := by rw [hrw_, Int.toNat_natCast]
  obtain rfl : p1 = 4 := by omega
  show zp_J p l e R s m args below meth c Q w u [] 0 [(0, 2, (a : Int)), (1, 0, 4), (2, 0, p2)] [] u.1 (zp_n u.2.1)
  refine zp_load (pc := 0) hx hb (zd_X12_change (0, .aload_n 0, 1, 0, []) (List.mem_of_getElem? (i := 0) rfl)) rfl (j := 0) rfl ?_
  refine zp_getf (n := (rw_ : Int)) (pc := 1) hx hb hE hw (zd_X12_change (1, .getfield 13, 3, 0, []) (List.mem_of_getElem? (i := 1) rfl)) (j := 21) rfl rfl rfl hp hrw_ ?_
  refine zp_load (pc := 4) hx hb (zd_X12_change (4, .iload_n 1, 1, 0, []) (List.mem_of_getElem? (i := 2) rfl)) rfl (j := 1) rfl ?_
  refine zp_ialdT (j := 4) (v := ((zp_n u.2.1) rw_ (2000 + 4))) (pc := 5) hx hb hw (zd_X12_change (5, .iaload, 1, 0, []) (List.mem_of_getElem? (i := 3) rfl)) zl_T59 rfl (zl_kd 4) qrw_ (by omega) (show 4 < 5580 by omega) rfl (fun hk23 => ?_)
  have hk23b := zp_int (show zk_ok u.1 (0, 0, (-1), 5) ((zp_n u.2.1) rw_ (2000 + 4)) from hk23)
  refine zp_store (L' := [(3, 0, ((zp_n u.2.1) rw_ (2000 + 4))), (0, 2, (a : Int)), (1, 0, 4), (2, 0, p2)]) (pc := 6) hx hb hnL (zd_X12_change (6, .istore_n 3, 1, 0, []) (List.mem_of_getElem? (i := 4) rfl)) rfl rfl rfl ?_
  refine zp_load (pc := 7) hx hb (zd_X12_change (7, .aload_n 0, 1, 0, []) (List.mem_of_getElem? (i := 5) rfl)) rfl (j := 1) rfl ?_
  refine zp_getf (n := (rw_ : Int)) (pc := 8) hx hb hE hw (zd_X12_change (8, .getfield 13, 3, 0, []) (List.mem_of_getElem? (i := 6) rfl)) (j := 21) rfl rfl rfl hp hrw_ ?_
  refine zp_load (pc := 11) hx hb (zd_X12_change (11, .iload_n 1, 1, 0, []) (List.mem_of_getElem? (i := 7) rfl)) rfl (j := 2) rfl ?_
  refine zp_load (pc := 12) hx hb (zd_X12_change (12, .iload_n 2, 1, 0, []) (List.mem_of_getElem? (i := 8) rfl)) rfl (j := 3) rfl ?_
  refine zp_iastR (j := 4) (pc := 13) hx hb hw heff (zd_X12_change (13, .iastore, 1, 0, []) (List.mem_of_getElem? (i := 9) rfl)) qrw_ (by omega) (by omega) (zr_st (lo := (-1)) (hi := 5) (⟨rfl, rfl, rfl⟩) (by omega) (by omega) (by omega) (by omega)) ⟨4028, rfl, zr_pm (lo := 4) (hi := 4) (by omega) (by omega) (by decide) (by decide)⟩ ?_
  refine zp_load (pc := 14) hx hb (zd_X12_change (14, .aload_n 0, 1, 0, []) (List.mem_of_getElem? (i := 10) rfl)) rfl (j := 1) rfl ?_
  refine zp_const (pc := 15) hx hb (zd_X12_change (15, .iconst 0, 1, 0, []) (List.mem_of_getElem? (i := 11) rfl)) rfl rfl ?_
  refine zp_putf (pc := 16) hx hb hE hw heff (zd_X12_change (16, .putfield 164, 3, 0, []) (List.mem_of_getElem? (i := 12) rfl)) (j := 19) rfl rfl rfl hp (zp_o0 (by decide) (by decide) (by decide) (by decide)) ?_
  refine zp_load (pc := 19) hx hb (zd_X12_change (19, .iload_n 3, 1, 0, []) (List.mem_of_getElem? (i := 13) rfl)) rfl (j := 0) rfl ?_
  have ez0 : (zp_set (zp_set (zp_n u.2.1) rw_ (2000 + 4) p2) a 1 0) rw_ (2000 + 4) = p2 := ((zp_set_ne (Or.inl (zp_pne qrw_ hp (by decide)))).trans (zp_set_self))
  refine zp_iret (pc := 20) (n := ((zp_n u.2.1) rw_ (2000 + 4))) hx hb hE hQ hU5 rfl (by decide) (zd_X12_change (20, .ireturn, 1, 0, []) (List.mem_of_getElem? (i := 14) rfl)) (j := 0) rfl (zp_o0 (by omega) (by omega) (by omega) (by omega)) ?_
  rw [hps]
  refine ⟨rfl, ?_⟩
  show ((zp_n u.2.1) rw_ (2000 + 4)) = zp_n u.2.1 (zp_n u.2.1 a 3).toNat (2000 + 4) ∧ (zp_set (zp_set (zp_n u.2.1) rw_ (2000 + 4) p2) a 1 0) (zp_n u.2.1 a 3).toNat (2000 + 4) = p2
  rw [hrt]
  omega
def zK_mfc : zk_K := (zt_mn 236, prog_14_method_63_code, 2, (Option.some Jvm.ClassFile.FieldType.int), 1, 12, [(2, 13, 0, 0), (0, 0, (-2147483648), 2147483647)], [(some (0, 0, (-2), 5), [])], [(13, 0, 0), (13, 1, 0), (58, 1001, 0), (59, 4028, 0)], (2, 60, 0, 0))
def zψ_mfc : (Nat → Option Nat) → (Nat → Nat → Int) → List Int → (Nat → Option Nat) → (Nat → Nat → Int) → Int → Prop := fun P G ps P' G' rn => (((ps.getD 1 0) = -1 ∨ (0 ≤ (ps.getD 1 0) ∧ (ps.getD 1 0) < G (G (zp_0 ps) 3).toNat (2000 + 3))) → rn = G (G (zp_0 ps) 3).toNat (2000 + 4) ∧ G' (G (zp_0 ps) 3).toNat (2000 + 4) = (ps.getD 1 0)) ∧ (¬ ((ps.getD 1 0) = -1 ∨ (0 ≤ (ps.getD 1 0) ∧ (ps.getD 1 0) < G (G (zp_0 ps) 3).toNat (2000 + 3))) → rn = -2 ∧ G' (G (zp_0 ps) 3).toNat (2000 + 4) = G (G (zp_0 ps) 3).toNat (2000 + 4))
theorem zX_mfc {l : Launch} {w : zk_W} (hW : zh_W w) : zk_metX l w zt_dv zt_TB zK_mfc (zp_A zp_tA) (zp_B zψ_mfc) ∧ zk_cok w zt_TB zK_mfc := by
  refine zp_methX (cn := "WoundTownModel") zp_lkall hW (pl := 1792) rfl (by decide +kernel) (fun p e R s m args below meth c Q u hx hb hE hQ hU5 heff hnL hok hφ => ?_)
  have hw := hW.1
  obtain ⟨p0, p1, hps, k0, k1⟩ := zp_ps2 hok
  obtain ⟨a, rfl, hp⟩ := zp_this k0
  have hrm : zk_Kr (zk_ev (zt_types, zp_lk, zt_dv, [], [], zp_lc, zK_mfc)) = zk_Kr zK_mfc := rfl
  rw [hps] at hφ ⊢
  have hi1 := zp_int k1
  show zp_J p l e R s m args below meth c Q w u [] 0 [(0, 2, (a : Int)), (1, 0, p1)] [] u.1 (zp_n u.2.1)
  refine zp_kn (k := 3) (a := a) hw (show zp_fd 13 3 = some (12, 2, 59, 0, 0) from rfl) rfl hp (fun hkrw_ => ?_)
  obtain ⟨rw_, hrw_, qrw_⟩ := zp_this hkrw_
  have qrw : u.1 rw_ = some 59 := qrw_
  have hrt : (zp_n u.2.1 a 3).toNat = rw_ := by rw [hrw_, Int.toNat_natCast]
  refine zp_kaT hw qrw zl_T59 rfl zl_kd (fun hkalk => ?_)
  have hklk : zk_ok u.1 (0, 0, 0, 6) (zp_n u.2.1 rw_ (2000 + 3)) := hkalk 3 (show 3 < 5580 by decide)
  obtain ⟨lk, hlk⟩ := zp_nat (zp_int hklk).1
  have hlkb := zp_int hklk
  rw [hlk] at hlkb
  refine zp_kaT hw qrw zl_T59 rfl zl_kd (fun hkf4 => ?_)
  have hkf4b : zk_ok u.1 (0, 0, (-1), 5) (zp_n u.2.1 rw_ (2000 + 4)) := hkf4 4 (show 4 < 5580 by decide)
  have hf4b := zp_int hkf4b
  refine zp_load (pc := 0) hx hb (zd_X12_force (0, .aload_n 0, 1, 0, []) (List.mem_of_getElem? (i := 0) rfl)) rfl (j := 0) rfl ?_
  refine zp_const (pc := 1) hx hb (zd_X12_force (1, .iconst 0, 1, 0, []) (List.mem_of_getElem? (i := 1) rfl)) rfl rfl ?_
  refine zp_putf (pc := 2) hx hb hE hw heff (zd_X12_force (2, .putfield 161, 3, 0, []) (List.mem_of_getElem? (i := 2) rfl)) (j := 18) rfl rfl rfl hp (zp_o0 (by decide) (by decide) (by decide) (by decide)) ?_
  refine zp_load (pc := 5) hx hb (zd_X12_force (5, .iload_n 1, 1, 0, []) (List.mem_of_getElem? (i := 3) rfl)) rfl (j := 1) rfl ?_
  refine zp_const (pc := 6) hx hb (zd_X12_force (6, .iconst (-1), 1, 0, []) (List.mem_of_getElem? (i := 4) rfl)) rfl rfl ?_
  refine zp_icmp (pc := 7) (tgt := 28) hx hb (zd_X12_force (7, .if_icmp .eq 21, 3, 0, []) (List.mem_of_getElem? (i := 5) rfl)) rfl (fun (hc24 : p1 = (-1)) => ?_) (fun (hc24 : ¬ (p1 = (-1))) => ?_)
  · refine zp_load (pc := 28) hx hb (zd_X12_force (28, .aload_n 0, 1, 0, []) (List.mem_of_getElem? (i := 18) rfl)) rfl (j := 0) rfl ?_
    refine zp_const (pc := 29) hx hb (zd_X12_force (29, .iconst 4, 1, 0, []) (List.mem_of_getElem? (i := 19) rfl)) rfl rfl ?_
    refine zp_load (pc := 30) hx hb (zd_X12_force (30, .iload_n 1, 1, 0, []) (List.mem_of_getElem? (i := 20) rfl)) rfl (j := 1) rfl ?_
    have hwg5 : (zp_set (zp_n u.2.1) a 0 0) a 3 = (rw_ : Int) := ((zp_set_ne (Or.inr (by decide))).trans (hrw_))
    have hvg5 : (zp_set (zp_n u.2.1) a 0 0) rw_ (2000 + 4) = ((zp_n u.2.1) rw_ (2000 + 4)) := ((zp_set_ne (Or.inl (zp_pne qrw_ hp (by decide)))))
    refine zp_call (pc := 31) (how := 0) (idx := 196) (mi := 190) (S := []) hx hb hE hw heff hrm (zX_mc4 hW) rfl (j := 4) rfl rfl (by decide +kernel) (zd_X12_force (31, .invokevirtual 196, 3, 0, []) (List.mem_of_getElem? (i := 21) rfl)) [(a : Int), 4, p1] rfl ⟨zp_o2 hp, zp_o0 (by decide) (by decide) (by decide) (by decide), zp_o0 (by omega) (by omega) (by omega) (by omega), trivial⟩ (Nat.le_of_ble_eq_true rfl) trivial (fun al hal rng5 Pg5 Gg5 hextg5 hfrg5 hokg5 hcsg5 hpsig5 => ?_)
    obtain rfl := List.mem_singleton.mp hal
    have hrg5 := zp_int (hokg5 _ rfl).1
    have yag5 := hextg5 _ _ hp
    have yrw_g5 := hextg5 _ _ qrw_
    obtain ⟨hPg5, hgg5, htg5⟩ := hpsig5
    have hgg5 : rng5 = (zp_set (zp_n u.2.1) a 0 0) ((zp_set (zp_n u.2.1) a 0 0) a 3).toNat (2000 + 4) := hgg5
    have htg5 : Gg5 ((zp_set (zp_n u.2.1) a 0 0) a 3).toNat (2000 + 4) = p1 := htg5
    rw [hwg5, show ((rw_ : Int)).toNat = rw_ from rfl] at hgg5 htg5
    rw [hvg5] at hgg5
    refine zp_goto (tgt := 43) (pc := 34) hx hb (zd_X12_force (34, .goto 9, 3, 0, []) (List.mem_of_getElem? (i := 22) rfl)) rfl ?_
    have ez0 : Gg5 rw_ (2000 + 4) = p1 := htg5
    refine zp_iret (pc := 43) (n := rng5) hx hb hE hQ hU5 rfl (by decide) (zd_X12_force (43, .ireturn, 1, 0, []) (List.mem_of_getElem? (i := 26) rfl)) (j := 0) rfl (zp_o0 (by omega) (by omega) (by omega) (by omega)) ?_
    rw [hps]
    show ((p1 = -1 ∨ (0 ≤ p1 ∧ p1 < zp_n u.2.1 (zp_n u.2.1 a 3).toNat (2000 + 3))) → rng5 = zp_n u.2.1 (zp_n u.2.1 a 3).toNat (2000 + 4) ∧ Gg5 (zp_n u.2.1 a 3).toNat (2000 + 4) = p1) ∧ (¬ (p1 = -1 ∨ (0 ≤ p1 ∧ p1 < zp_n u.2.1 (zp_n u.2.1 a 3).toNat (2000 + 3))) → rng5 = -2 ∧ Gg5 (zp_n u.2.1 a 3).toNat (2000 + 4) = zp_n u.2.1 (zp_n u.2.1 a 3).toNat (2000 + 4))
    rw [hrt]
    omega
  · refine zp_load (pc := 10) hx hb (zd_X12_force (10, .iload_n 1, 1, 0, []) (List.mem_of_getElem? (i := 6) rfl)) rfl (j := 1) rfl ?_
    refine zp_i2l (pc := 11) hx hb (zd_X12_force (11, .i2l, 1, 0, []) (List.mem_of_getElem? (i := 7) rfl)) ?_
    refine zp_const (pc := 12) hx hb (zd_X12_force (12, .lconst 0, 1, 0, []) (List.mem_of_getElem? (i := 8) rfl)) rfl rfl ?_
    refine zp_load (pc := 13) hx hb (zd_X12_force (13, .aload_n 0, 1, 0, []) (List.mem_of_getElem? (i := 9) rfl)) rfl (j := 0) rfl ?_
    refine zp_getf (n := (rw_ : Int)) (pc := 14) hx hb hE hw (zd_X12_force (14, .getfield 13, 3, 0, []) (List.mem_of_getElem? (i := 10) rfl)) (j := 21) rfl rfl rfl hp ((zp_set_ne (Or.inr (by decide))).trans (hrw_)) ?_
    refine zp_const (pc := 17) hx hb (zd_X12_force (17, .iconst 3, 1, 0, []) (List.mem_of_getElem? (i := 11) rfl)) rfl rfl ?_
    refine zp_ialdT (j := 3) (v := (lk : Int)) (pc := 18) hx hb hw (zd_X12_force (18, .iaload, 1, 0, []) (List.mem_of_getElem? (i := 12) rfl)) zl_T59 rfl (zl_kd 3) qrw_ (by omega) (show 3 < 5580 by omega) ((zp_set_ne (Or.inl (zp_pne qrw_ hp (by decide)))).trans (hlk)) (fun hk25 => ?_)
    have hk25b := zp_int (show zk_ok u.1 (0, 0, 0, 6) (lk : Int) from hk25)
    refine zp_i2l (pc := 19) hx hb (zd_X12_force (19, .i2l, 1, 0, []) (List.mem_of_getElem? (i := 13) rfl)) ?_
    refine zp_const (pc := 20) hx hb (zd_X12_force (20, .lconst 1, 1, 0, []) (List.mem_of_getElem? (i := 14) rfl)) rfl rfl ?_
    refine zp_lsubx (n := ((lk : Int) - 1)) (pc := 21) hx hb (zd_X12_force (21, .lsub, 1, 0, []) (List.mem_of_getElem? (i := 15) rfl)) (by omega) (zp_r1 (by omega) (by omega)) ?_
    refine zp_call (pc := 22) (how := 1) (idx := 181) (mi := 186) (S := []) hx hb hE hw heff hrm (zX_in2 hW) rfl (j := 2) rfl rfl (by decide +kernel) (zd_X12_force (22, .invokestatic 181, 3, 0, []) (List.mem_of_getElem? (i := 16) rfl)) [p1, 0, ((lk : Int) - 1)] rfl ⟨zp_o1 (zp_r1 (by omega) (by omega)), zp_o1 (zp_r1 (by omega) (by omega)), zp_o1 (zp_r1 (by omega) (by omega)), trivial⟩ (Nat.le_of_ble_eq_true rfl) trivial (fun al hal rnw6 Pw6 Gw6 hextw6 hfrw6 hokw6 hcsw6 hpsiw6 => ?_)
    obtain rfl := List.mem_singleton.mp hal
    have hrw6 := zp_int (hokw6 _ rfl).1
    obtain ⟨hPew6, hGew6, htw6⟩ := hpsiw6
    have htw6 : rnw6 = 1 ↔ 0 ≤ p1 ∧ p1 ≤ ((lk : Int) - 1) := htw6
    rw [hPew6, hGew6]
    refine zp_if (pc := 25) (tgt := 37) hx hb (zd_X12_force (25, .ifCond .eq 12, 3, 0, []) (List.mem_of_getElem? (i := 17) rfl)) rfl (fun (hc26 : rnw6 = 0) => ?_) (fun (hc26 : ¬ (rnw6 = 0)) => ?_)
    · refine zp_load (pc := 37) hx hb (zd_X12_force (37, .aload_n 0, 1, 0, []) (List.mem_of_getElem? (i := 23) rfl)) rfl (j := 0) rfl ?_
      refine zp_const (pc := 38) hx hb (zd_X12_force (38, .bipush (-2), 2, 0, []) (List.mem_of_getElem? (i := 24) rfl)) rfl rfl ?_
      refine zp_call (pc := 40) (how := 0) (idx := 170) (mi := 183) (S := []) hx hb hE hw heff hrm (zX_te13 hW) rfl (j := 0) rfl rfl (by decide +kernel) (zd_X12_force (40, .invokevirtual 170, 3, 0, []) (List.mem_of_getElem? (i := 25) rfl)) [(a : Int), (-2)] rfl ⟨zp_o2 hp, zp_o0 (by omega) (by omega) (by omega) (by omega), trivial⟩ (Nat.le_of_ble_eq_true rfl) trivial (fun al hal rnr7 Pr7 Gr7 hextr7 hfrr7 hokr7 hcsr7 hpsir7 => ?_)
      obtain rfl := List.mem_singleton.mp hal
      have hrr7 := zp_int (hokr7 _ rfl).1
      have yar7 := hextr7 _ _ hp
      have yrw_r7 := hextr7 _ _ qrw_
      have htr7 : rnr7 = (-2) := hpsir7.2
      have ez0 : Gr7 rw_ (2000 + 4) = ((zp_n u.2.1) rw_ (2000 + 4)) := ((zp_nc hfrr7 qrw_ rfl (2000 + 4)).trans ((zp_set_ne (Or.inl (zp_pne qrw_ hp (by decide))))))
      refine zp_iret (pc := 43) (n := rnr7) hx hb hE hQ hU5 rfl (by decide) (zd_X12_force (43, .ireturn, 1, 0, []) (List.mem_of_getElem? (i := 26) rfl)) (j := 0) rfl (zp_o0 (by omega) (by omega) (by omega) (by omega)) ?_
      rw [hps]
      show ((p1 = -1 ∨ (0 ≤ p1 ∧ p1 < zp_n u.2.1 (zp_n u.2.1 a 3).toNat (2000 + 3))) → rnr7 = zp_n u.2.1 (zp_n u.2.1 a 3).toNat (2000 + 4) ∧ Gr7 (zp_n u.2.1 a 3).toNat (2000 + 4) = p1) ∧ (¬ (p1 = -1 ∨ (0 ≤ p1 ∧ p1 < zp_n u.2.1 (zp_n u.2.1 a 3).toNat (2000 + 3))) → rnr7 = -2 ∧ Gr7 (zp_n u.2.1 a 3).toNat (2000 + 4) = zp_n u.2.1 (zp_n u.2.1 a 3).toNat (2000 + 4))
      rw [hrt]
      omega
    · refine zp_load (pc := 28) hx hb (zd_X12_force (28, .aload_n 0, 1, 0, []) (List.mem_of_getElem? (i := 18) rfl)) rfl (j := 0) rfl ?_
      refine zp_const (pc := 29) hx hb (zd_X12_force (29, .iconst 4, 1, 0, []) (List.mem_of_getElem? (i := 19) rfl)) rfl rfl ?_
      refine zp_load (pc := 30) hx hb (zd_X12_force (30, .iload_n 1, 1, 0, []) (List.mem_of_getElem? (i := 20) rfl)) rfl (j := 1) rfl ?_
      have hwg8 : (zp_set (zp_n u.2.1) a 0 0) a 3 = (rw_ : Int) := ((zp_set_ne (Or.inr (by decide))).trans (hrw_))
      have hvg8 : (zp_set (zp_n u.2.1) a 0 0) rw_ (2000 + 4) = ((zp_n u.2.1) rw_ (2000 + 4)) := ((zp_set_ne (Or.inl (zp_pne qrw_ hp (by decide)))))
      refine zp_call (pc := 31) (how := 0) (idx := 196) (mi := 190) (S := []) hx hb hE hw heff hrm (zX_mc4 hW) rfl (j := 4) rfl rfl (by decide +kernel) (zd_X12_force (31, .invokevirtual 196, 3, 0, []) (List.mem_of_getElem? (i := 21) rfl)) [(a : Int), 4, p1] rfl ⟨zp_o2 hp, zp_o0 (by decide) (by decide) (by decide) (by decide), zp_o0 (by omega) (by omega) (by omega) (by omega), trivial⟩ (Nat.le_of_ble_eq_true rfl) trivial (fun al hal rng8 Pg8 Gg8 hextg8 hfrg8 hokg8 hcsg8 hpsig8 => ?_)
      obtain rfl := List.mem_singleton.mp hal
      have hrg8 := zp_int (hokg8 _ rfl).1
      have yag8 := hextg8 _ _ hp
      have yrw_g8 := hextg8 _ _ qrw_
      obtain ⟨hPg8, hgg8, htg8⟩ := hpsig8
      have hgg8 : rng8 = (zp_set (zp_n u.2.1) a 0 0) ((zp_set (zp_n u.2.1) a 0 0) a 3).toNat (2000 + 4) := hgg8
      have htg8 : Gg8 ((zp_set (zp_n u.2.1) a 0 0) a 3).toNat (2000 + 4) = p1 := htg8
      rw [hwg8, show ((rw_ : Int)).toNat = rw_ from rfl] at hgg8 htg8
      rw [hvg8] at hgg8
      refine zp_goto (tgt := 43) (pc := 34) hx hb (zd_X12_force (34, .goto 9, 3, 0, []) (List.mem_of_getElem? (i := 22) rfl)) rfl ?_
      have ez0 : Gg8 rw_ (2000 + 4) = p1 := htg8
      refine zp_iret (pc := 43) (n := rng8) hx hb hE hQ hU5 rfl (by decide) (zd_X12_force (43, .ireturn, 1, 0, []) (List.mem_of_getElem? (i := 26) rfl)) (j := 0) rfl (zp_o0 (by omega) (by omega) (by omega) (by omega)) ?_
      rw [hps]
      show ((p1 = -1 ∨ (0 ≤ p1 ∧ p1 < zp_n u.2.1 (zp_n u.2.1 a 3).toNat (2000 + 3))) → rng8 = zp_n u.2.1 (zp_n u.2.1 a 3).toNat (2000 + 4) ∧ Gg8 (zp_n u.2.1 a 3).toNat (2000 + 4) = p1) ∧ (¬ (p1 = -1 ∨ (0 ≤ p1 ∧ p1 < zp_n u.2.1 (zp_n u.2.1 a 3).toNat (2000 + 3))) → rng8 = -2 ∧ Gg8 (zp_n u.2.1 a 3).toNat (2000 + 4) = zp_n u.2.1 (zp_n u.2.1 a 3).toNat (2000 + 4))
      rw [hrt]
      omega
