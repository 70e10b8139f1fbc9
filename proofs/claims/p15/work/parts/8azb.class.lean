/-! part 8azb: the class: person, work, row, sight, forget, dust, feed -/
def zK_iwn : zk_K := (zt_mn 15, prog_1_method_55_code, 3, (Option.some Jvm.ClassFile.FieldType.boolean), 0, 11, [(0, 0, (-2147483648), 2147483647), (0, 0, (-2147483648), 2147483647), (0, 0, (-2147483648), 2147483647)], [(some (0, 0, 0, 1), [])], [], (0, 0, 0, 0))
def zψ_iwn : (Nat → Option Nat) → (Nat → Nat → Int) → List Int → (Nat → Option Nat) → (Nat → Nat → Int) → Int → Prop := fun P G ps P' G' rn => P' = P ∧ G' = G ∧ (rn = 1 ↔ ps.getD 1 0 ≤ ps.getD 0 0 ∧ ps.getD 0 0 ≤ ps.getD 2 0)
theorem zX_iwn {l : Launch} {w : zk_W} (hW : zh_W w) : zk_metX l w zt_dv zt_TB zK_iwn (zp_A zp_tA) (zp_B zψ_iwn) ∧ zk_cok w zt_TB zK_iwn := by
  refine zp_methX (cn := "WoundTown") zp_lkallW hW (pl := 607) rfl (by decide +kernel) (fun p e R s m args below meth c Q u hx hb hE hQ hU5 heff hnL hok hφ => ?_)
  have hw := hW.1
  obtain ⟨p0, p1, p2, hps, k0, k1, k2⟩ := zp_ps3 hok
  have hrm : zk_Kr (zk_ev (zt_types, zp_lkW, zt_dv, [], [], zp_lcW, zK_iwn)) = zk_Kr zK_iwn := rfl
  rw [hps] at hφ ⊢
  have hi0 := zp_int k0
  have hi1 := zp_int k1
  have hi2 := zp_int k2
  show zp_J p l e R s m args below meth c Q w u [] 0 [(0, 0, p0), (1, 0, p1), (2, 0, p2)] [] u.1 (zp_n u.2.1)
  refine zp_load (pc := 0) hx hb (zd_X11_isWithin (0, .iload_n 0, 1, 0, []) (List.mem_of_getElem? (i := 0) rfl)) rfl (j := 0) rfl ?_
  refine zp_load (pc := 1) hx hb (zd_X11_isWithin (1, .iload_n 1, 1, 0, []) (List.mem_of_getElem? (i := 1) rfl)) rfl (j := 1) rfl ?_
  refine zp_icmp (pc := 2) (tgt := 14) hx hb (zd_X11_isWithin (2, .if_icmp .lt 12, 3, 0, []) (List.mem_of_getElem? (i := 2) rfl)) rfl (fun (hc21 : p0 < p1) => ?_) (fun (hc21 : ¬ (p0 < p1)) => ?_)
  · refine zp_const (pc := 14) hx hb (zd_X11_isWithin (14, .iconst 0, 1, 0, []) (List.mem_of_getElem? (i := 8) rfl)) rfl rfl ?_
    refine zp_zret (pc := 15) (n := 0) hx hb hE hQ hU5 rfl (by decide) (zd_X11_isWithin (15, .ireturn, 1, 0, []) (List.mem_of_getElem? (i := 9) rfl)) (j := 0) rfl (zp_o0 (by omega) (by omega) (by omega) (by omega)) ?_
    rw [hps]
    refine ⟨rfl, rfl, ?_⟩
    show (0 = 1 ↔ p1 ≤ p0 ∧ p0 ≤ p2)
    omega
  · refine zp_load (pc := 5) hx hb (zd_X11_isWithin (5, .iload_n 0, 1, 0, []) (List.mem_of_getElem? (i := 3) rfl)) rfl (j := 0) rfl ?_
    refine zp_load (pc := 6) hx hb (zd_X11_isWithin (6, .iload_n 2, 1, 0, []) (List.mem_of_getElem? (i := 4) rfl)) rfl (j := 2) rfl ?_
    refine zp_icmp (pc := 7) (tgt := 14) hx hb (zd_X11_isWithin (7, .if_icmp .gt 7, 3, 0, []) (List.mem_of_getElem? (i := 5) rfl)) rfl (fun (hc22 : p2 < p0) => ?_) (fun (hc22 : ¬ (p2 < p0)) => ?_)
    · refine zp_const (pc := 14) hx hb (zd_X11_isWithin (14, .iconst 0, 1, 0, []) (List.mem_of_getElem? (i := 8) rfl)) rfl rfl ?_
      refine zp_zret (pc := 15) (n := 0) hx hb hE hQ hU5 rfl (by decide) (zd_X11_isWithin (15, .ireturn, 1, 0, []) (List.mem_of_getElem? (i := 9) rfl)) (j := 0) rfl (zp_o0 (by omega) (by omega) (by omega) (by omega)) ?_
      rw [hps]
      refine ⟨rfl, rfl, ?_⟩
      show (0 = 1 ↔ p1 ≤ p0 ∧ p0 ≤ p2)
      omega
    · refine zp_const (pc := 10) hx hb (zd_X11_isWithin (10, .iconst 1, 1, 0, []) (List.mem_of_getElem? (i := 6) rfl)) rfl rfl ?_
      refine zp_goto (tgt := 15) (pc := 11) hx hb (zd_X11_isWithin (11, .goto 4, 3, 0, []) (List.mem_of_getElem? (i := 7) rfl)) rfl ?_
      refine zp_zret (pc := 15) (n := 1) hx hb hE hQ hU5 rfl (by decide) (zd_X11_isWithin (15, .ireturn, 1, 0, []) (List.mem_of_getElem? (i := 9) rfl)) (j := 0) rfl (zp_o0 (by omega) (by omega) (by omega) (by omega)) ?_
      rw [hps]
      refine ⟨rfl, rfl, ?_⟩
      show (1 = 1 ↔ p1 ≤ p0 ∧ p0 ≤ p2)
      omega
def zK_hpn : zk_K := (zt_mn 22, prog_11_method_3_code, 2, (Option.some Jvm.ClassFile.FieldType.boolean), 1, 9, [(2, 10, 0, 0), (0, 0, (-2147483648), 2147483647)], [(some (0, 0, 0, 1), [])], [], (0, 0, 0, 0))
def zψ_hpn : (Nat → Option Nat) → (Nat → Nat → Int) → List Int → (Nat → Option Nat) → (Nat → Nat → Int) → Int → Prop := fun P G ps P' G' rn => P' = P ∧ G' = G ∧ (rn = 1 ↔ 0 ≤ ps.getD 1 0 ∧ ps.getD 1 0 < G (zp_0 ps) 1)
theorem zX_hpn {l : Launch} {w : zk_W} (hW : zh_W w) : zk_metX l w zt_dv zt_TB zK_hpn (zp_A zp_tA) (zp_B zψ_hpn) ∧ zk_cok w zt_TB zK_hpn := by
  refine zp_methX (cn := "WoundTown$Town") zp_lkallN hW (pl := 635) rfl (by decide +kernel) (fun p e R s m args below meth c Q u hx hb hE hQ hU5 heff hnL hok hφ => ?_)
  have hw := hW.1
  obtain ⟨p0, p1, hps, k0, k1⟩ := zp_ps2 hok
  obtain ⟨a, rfl, hp⟩ := zp_this k0
  have hrm : zk_Kr (zk_ev (zt_types, zp_lkN, zt_dv, [], [], zp_lcN, zK_hpn)) = zk_Kr zK_hpn := rfl
  rw [hps] at hφ ⊢
  have hi1 := zp_int k1
  show zp_J p l e R s m args below meth c Q w u [] 0 [(0, 2, (a : Int)), (1, 0, p1)] [] u.1 (zp_n u.2.1)
  refine zp_kn (k := 1) (a := a) hw (show zp_fd 10 1 = some (9, 0, 0, 0, 6) from rfl) rfl hp (fun hkpe => ?_)
  obtain ⟨pe, hpe⟩ : ∃ z0 : Int, (zp_n u.2.1) a 1 = z0 := ⟨_, rfl⟩
  have hpeb := zp_int hkpe
  rw [hpe] at hpeb
  refine zp_load (pc := 0) hx hb (zd_X9_hasPerson (0, .iload_n 1, 1, 0, []) (List.mem_of_getElem? (i := 0) rfl)) rfl (j := 1) rfl ?_
  refine zp_if (pc := 1) (tgt := 22) hx hb (zd_X9_hasPerson (1, .ifCond .lt 21, 3, 0, []) (List.mem_of_getElem? (i := 1) rfl)) rfl (fun (hc23 : p1 < 0) => ?_) (fun (hc23 : ¬ (p1 < 0)) => ?_)
  · refine zp_const (pc := 22) hx hb (zd_X9_hasPerson (22, .iconst 0, 1, 0, []) (List.mem_of_getElem? (i := 11) rfl)) rfl rfl ?_
    refine zp_zret (pc := 23) (n := 0) hx hb hE hQ hU5 rfl (by decide) (zd_X9_hasPerson (23, .ireturn, 1, 0, []) (List.mem_of_getElem? (i := 12) rfl)) (j := 0) rfl (zp_o0 (by omega) (by omega) (by omega) (by omega)) ?_
    rw [hps]
    refine ⟨rfl, rfl, ?_⟩
    show (0 = 1 ↔ 0 ≤ p1 ∧ p1 < zp_n u.2.1 a 1)
    omega
  · refine zp_load (pc := 4) hx hb (zd_X9_hasPerson (4, .iload_n 1, 1, 0, []) (List.mem_of_getElem? (i := 2) rfl)) rfl (j := 1) rfl ?_
    refine zp_load (pc := 5) hx hb (zd_X9_hasPerson (5, .aload_n 0, 1, 0, []) (List.mem_of_getElem? (i := 3) rfl)) rfl (j := 0) rfl ?_
    refine zp_getf (n := pe) (pc := 6) hx hb hE hw (zd_X9_hasPerson (6, .getfield 68, 3, 0, []) (List.mem_of_getElem? (i := 4) rfl)) (j := 8) rfl rfl rfl hp hpe ?_
    refine zp_icmp (pc := 9) (tgt := 22) hx hb (zd_X9_hasPerson (9, .if_icmp .ge 13, 3, 0, []) (List.mem_of_getElem? (i := 5) rfl)) rfl (fun (hc24 : pe ≤ p1) => ?_) (fun (hc24 : ¬ (pe ≤ p1)) => ?_)
    · refine zp_const (pc := 22) hx hb (zd_X9_hasPerson (22, .iconst 0, 1, 0, []) (List.mem_of_getElem? (i := 11) rfl)) rfl rfl ?_
      refine zp_zret (pc := 23) (n := 0) hx hb hE hQ hU5 rfl (by decide) (zd_X9_hasPerson (23, .ireturn, 1, 0, []) (List.mem_of_getElem? (i := 12) rfl)) (j := 0) rfl (zp_o0 (by omega) (by omega) (by omega) (by omega)) ?_
      rw [hps]
      refine ⟨rfl, rfl, ?_⟩
      show (0 = 1 ↔ 0 ≤ p1 ∧ p1 < zp_n u.2.1 a 1)
      omega
    · refine zp_load (pc := 12) hx hb (zd_X9_hasPerson (12, .iload_n 1, 1, 0, []) (List.mem_of_getElem? (i := 6) rfl)) rfl (j := 1) rfl ?_
      refine zp_const (pc := 13) hx hb (zd_X9_hasPerson (13, .bipush 6, 2, 0, []) (List.mem_of_getElem? (i := 7) rfl)) rfl rfl ?_
      refine zp_icmp (pc := 15) (tgt := 22) hx hb (zd_X9_hasPerson (15, .if_icmp .ge 7, 3, 0, []) (List.mem_of_getElem? (i := 8) rfl)) rfl (fun (hc25 : 6 ≤ p1) => ?_) (fun (hc25 : ¬ (6 ≤ p1)) => ?_)
      · refine zp_const (pc := 22) hx hb (zd_X9_hasPerson (22, .iconst 0, 1, 0, []) (List.mem_of_getElem? (i := 11) rfl)) rfl rfl ?_
        refine zp_zret (pc := 23) (n := 0) hx hb hE hQ hU5 rfl (by decide) (zd_X9_hasPerson (23, .ireturn, 1, 0, []) (List.mem_of_getElem? (i := 12) rfl)) (j := 0) rfl (zp_o0 (by omega) (by omega) (by omega) (by omega)) ?_
        rw [hps]
        refine ⟨rfl, rfl, ?_⟩
        show (0 = 1 ↔ 0 ≤ p1 ∧ p1 < zp_n u.2.1 a 1)
        omega
      · refine zp_const (pc := 18) hx hb (zd_X9_hasPerson (18, .iconst 1, 1, 0, []) (List.mem_of_getElem? (i := 9) rfl)) rfl rfl ?_
        refine zp_goto (tgt := 23) (pc := 19) hx hb (zd_X9_hasPerson (19, .goto 4, 3, 0, []) (List.mem_of_getElem? (i := 10) rfl)) rfl ?_
        refine zp_zret (pc := 23) (n := 1) hx hb hE hQ hU5 rfl (by decide) (zd_X9_hasPerson (23, .ireturn, 1, 0, []) (List.mem_of_getElem? (i := 12) rfl)) (j := 0) rfl (zp_o0 (by omega) (by omega) (by omega) (by omega)) ?_
        rw [hps]
        refine ⟨rfl, rfl, ?_⟩
        show (1 = 1 ↔ 0 ≤ p1 ∧ p1 < zp_n u.2.1 a 1)
        omega
def zK_hwk : zk_K := (zt_mn 26, prog_11_method_4_code, 2, (Option.some Jvm.ClassFile.FieldType.boolean), 1, 9, [(2, 10, 0, 0), (0, 0, (-2147483648), 2147483647)], [(some (0, 0, 0, 1), [])], [], (0, 0, 0, 0))
def zψ_hwk : (Nat → Option Nat) → (Nat → Nat → Int) → List Int → (Nat → Option Nat) → (Nat → Nat → Int) → Int → Prop := fun P G ps P' G' rn => P' = P ∧ G' = G ∧ (rn = 1 ↔ 0 ≤ ps.getD 1 0 ∧ ps.getD 1 0 < G (zp_0 ps) 3)
theorem zX_hwk {l : Launch} {w : zk_W} (hW : zh_W w) : zk_metX l w zt_dv zt_TB zK_hwk (zp_A zp_tA) (zp_B zψ_hwk) ∧ zk_cok w zt_TB zK_hwk := by
  refine zp_methX (cn := "WoundTown$Town") zp_lkallN hW (pl := 651) rfl (by decide +kernel) (fun p e R s m args below meth c Q u hx hb hE hQ hU5 heff hnL hok hφ => ?_)
  have hw := hW.1
  obtain ⟨p0, p1, hps, k0, k1⟩ := zp_ps2 hok
  obtain ⟨a, rfl, hp⟩ := zp_this k0
  have hrm : zk_Kr (zk_ev (zt_types, zp_lkN, zt_dv, [], [], zp_lcN, zK_hwk)) = zk_Kr zK_hwk := rfl
  rw [hps] at hφ ⊢
  have hi1 := zp_int k1
  show zp_J p l e R s m args below meth c Q w u [] 0 [(0, 2, (a : Int)), (1, 0, p1)] [] u.1 (zp_n u.2.1)
  refine zp_kn (k := 3) (a := a) hw (show zp_fd 10 3 = some (9, 0, 0, 0, 10) from rfl) rfl hp (fun hkwk => ?_)
  obtain ⟨wk, hwk⟩ : ∃ z0 : Int, (zp_n u.2.1) a 3 = z0 := ⟨_, rfl⟩
  have hwkb := zp_int hkwk
  rw [hwk] at hwkb
  refine zp_load (pc := 0) hx hb (zd_X9_hasWork (0, .iload_n 1, 1, 0, []) (List.mem_of_getElem? (i := 0) rfl)) rfl (j := 1) rfl ?_
  refine zp_if (pc := 1) (tgt := 22) hx hb (zd_X9_hasWork (1, .ifCond .lt 21, 3, 0, []) (List.mem_of_getElem? (i := 1) rfl)) rfl (fun (hc26 : p1 < 0) => ?_) (fun (hc26 : ¬ (p1 < 0)) => ?_)
  · refine zp_const (pc := 22) hx hb (zd_X9_hasWork (22, .iconst 0, 1, 0, []) (List.mem_of_getElem? (i := 11) rfl)) rfl rfl ?_
    refine zp_zret (pc := 23) (n := 0) hx hb hE hQ hU5 rfl (by decide) (zd_X9_hasWork (23, .ireturn, 1, 0, []) (List.mem_of_getElem? (i := 12) rfl)) (j := 0) rfl (zp_o0 (by omega) (by omega) (by omega) (by omega)) ?_
    rw [hps]
    refine ⟨rfl, rfl, ?_⟩
    show (0 = 1 ↔ 0 ≤ p1 ∧ p1 < zp_n u.2.1 a 3)
    omega
  · refine zp_load (pc := 4) hx hb (zd_X9_hasWork (4, .iload_n 1, 1, 0, []) (List.mem_of_getElem? (i := 2) rfl)) rfl (j := 1) rfl ?_
    refine zp_load (pc := 5) hx hb (zd_X9_hasWork (5, .aload_n 0, 1, 0, []) (List.mem_of_getElem? (i := 3) rfl)) rfl (j := 0) rfl ?_
    refine zp_getf (n := wk) (pc := 6) hx hb hE hw (zd_X9_hasWork (6, .getfield 71, 3, 0, []) (List.mem_of_getElem? (i := 4) rfl)) (j := 10) rfl rfl rfl hp hwk ?_
    refine zp_icmp (pc := 9) (tgt := 22) hx hb (zd_X9_hasWork (9, .if_icmp .ge 13, 3, 0, []) (List.mem_of_getElem? (i := 5) rfl)) rfl (fun (hc27 : wk ≤ p1) => ?_) (fun (hc27 : ¬ (wk ≤ p1)) => ?_)
    · refine zp_const (pc := 22) hx hb (zd_X9_hasWork (22, .iconst 0, 1, 0, []) (List.mem_of_getElem? (i := 11) rfl)) rfl rfl ?_
      refine zp_zret (pc := 23) (n := 0) hx hb hE hQ hU5 rfl (by decide) (zd_X9_hasWork (23, .ireturn, 1, 0, []) (List.mem_of_getElem? (i := 12) rfl)) (j := 0) rfl (zp_o0 (by omega) (by omega) (by omega) (by omega)) ?_
      rw [hps]
      refine ⟨rfl, rfl, ?_⟩
      show (0 = 1 ↔ 0 ≤ p1 ∧ p1 < zp_n u.2.1 a 3)
      omega
    · refine zp_load (pc := 12) hx hb (zd_X9_hasWork (12, .iload_n 1, 1, 0, []) (List.mem_of_getElem? (i := 6) rfl)) rfl (j := 1) rfl ?_
      refine zp_const (pc := 13) hx hb (zd_X9_hasWork (13, .bipush 10, 2, 0, []) (List.mem_of_getElem? (i := 7) rfl)) rfl rfl ?_
      refine zp_icmp (pc := 15) (tgt := 22) hx hb (zd_X9_hasWork (15, .if_icmp .ge 7, 3, 0, []) (List.mem_of_getElem? (i := 8) rfl)) rfl (fun (hc28 : 10 ≤ p1) => ?_) (fun (hc28 : ¬ (10 ≤ p1)) => ?_)
      · refine zp_const (pc := 22) hx hb (zd_X9_hasWork (22, .iconst 0, 1, 0, []) (List.mem_of_getElem? (i := 11) rfl)) rfl rfl ?_
        refine zp_zret (pc := 23) (n := 0) hx hb hE hQ hU5 rfl (by decide) (zd_X9_hasWork (23, .ireturn, 1, 0, []) (List.mem_of_getElem? (i := 12) rfl)) (j := 0) rfl (zp_o0 (by omega) (by omega) (by omega) (by omega)) ?_
        rw [hps]
        refine ⟨rfl, rfl, ?_⟩
        show (0 = 1 ↔ 0 ≤ p1 ∧ p1 < zp_n u.2.1 a 3)
        omega
      · refine zp_const (pc := 18) hx hb (zd_X9_hasWork (18, .iconst 1, 1, 0, []) (List.mem_of_getElem? (i := 9) rfl)) rfl rfl ?_
        refine zp_goto (tgt := 23) (pc := 19) hx hb (zd_X9_hasWork (19, .goto 4, 3, 0, []) (List.mem_of_getElem? (i := 10) rfl)) rfl ?_
        refine zp_zret (pc := 23) (n := 1) hx hb hE hQ hU5 rfl (by decide) (zd_X9_hasWork (23, .ireturn, 1, 0, []) (List.mem_of_getElem? (i := 12) rfl)) (j := 0) rfl (zp_o0 (by omega) (by omega) (by omega) (by omega)) ?_
        rw [hps]
        refine ⟨rfl, rfl, ?_⟩
        show (1 = 1 ↔ 0 ≤ p1 ∧ p1 < zp_n u.2.1 a 3)
        omega
def zK_apn : zk_K := (zt_mn 20, prog_11_method_7_code, 4, (Option.some Jvm.ClassFile.FieldType.int), 1, 9, [(2, 10, 0, 0), (0, 0, 0, 9), (0, 0, (-2147483648), 2147483647)], [(some (0, 0, (-1), 5), [])], [(17, 1001, 0), (18, 1001, 0), (43, 1001, 0), (10, 1, 0)], (0, 0, 0, 0))
def zφ_apn : (Nat → Option Nat) → (Nat → Nat → Int) → List Int → Prop := fun _ G ps => G (zp_0 ps) 1 < 6
def zψ_apn : (Nat → Option Nat) → (Nat → Nat → Int) → List Int → (Nat → Option Nat) → (Nat → Nat → Int) → Int → Prop := fun P G ps P' G' rn => P' = P ∧ rn = G (zp_0 ps) 1 ∧ G' (zp_0 ps) 1 = G (zp_0 ps) 1 + 1
theorem zX_apn {l : Launch} {w : zk_W} (hW : zh_W w) : zk_metX l w zt_dv zt_TB zK_apn (zp_A zφ_apn) (zp_B zψ_apn) ∧ zk_cok w zt_TB zK_apn := by
  refine zp_methX (cn := "WoundTown$Town") zp_lkallN hW (pl := 627) rfl (by decide +kernel) (fun p e R s m args below meth c Q u hx hb hE hQ hU5 heff hnL hok hφ => ?_)
  have hw := hW.1
  obtain ⟨p0, p1, p2, hps, k0, k1, k2⟩ := zp_ps3 hok
  obtain ⟨a, rfl, hp⟩ := zp_this k0
  have hrm : zk_Kr (zk_ev (zt_types, zp_lkN, zt_dv, [], [], zp_lcN, zK_apn)) = zk_Kr zK_apn := rfl
  rw [hps] at hφ ⊢
  have hi1 := zp_int k1
  have hi2 := zp_int k2
  show zp_J p l e R s m args below meth c Q w u [] 0 [(0, 2, (a : Int)), (1, 0, p1), (2, 0, p2)] [] u.1 (zp_n u.2.1)
  have hφ : zp_n u.2.1 a 1 < 6 := hφ
  refine zp_kn (k := 1) (a := a) hw (show zp_fd 10 1 = some (9, 0, 0, 0, 6) from rfl) rfl hp (fun hkpe => ?_)
  obtain ⟨pe, hpe⟩ := zp_nat (zp_int hkpe).1
  have hpeb := zp_int hkpe
  rw [hpe] at hpeb
  rw [hpe] at hφ
  refine zp_kn (k := 18) (a := a) hw (show zp_fd 10 18 = some (9, 2, 2, 0, 0) from rfl) rfl hp (fun hkgo => ?_)
  obtain ⟨go, hgo, qgo⟩ := zp_this hkgo
  refine zp_kn (k := 0) (a := go) hw (show zp_fd 2 0 = some (2, 2, 17, 0, 0) from rfl) rfl qgo (fun hkoi => ?_)
  obtain ⟨oi, hoi, qoi⟩ := zp_this hkoi
  refine zp_kn (k := 1) (a := go) hw (show zp_fd 2 1 = some (2, 2, 18, 0, 0) from rfl) rfl qgo (fun hkli => ?_)
  obtain ⟨li, hli, qli⟩ := zp_this hkli
  refine zp_kn (k := 2) (a := a) hw (show zp_fd 10 2 = some (9, 2, 43, 0, 0) from rfl) rfl hp (fun hkpc => ?_)
  obtain ⟨pc, hpc, qpc⟩ := zp_this hkpc
  refine zp_load (pc := 0) hx hb (zd_X9_addPerson (0, .aload_n 0, 1, 0, []) (List.mem_of_getElem? (i := 0) rfl)) rfl (j := 0) rfl ?_
  refine zp_getf (n := (pe : Int)) (pc := 1) hx hb hE hw (zd_X9_addPerson (1, .getfield 68, 3, 0, []) (List.mem_of_getElem? (i := 1) rfl)) (j := 8) rfl rfl rfl hp hpe ?_
  refine zp_store (L' := [(3, 0, (pe : Int)), (0, 2, (a : Int)), (1, 0, p1), (2, 0, p2)]) (pc := 4) hx hb hnL (zd_X9_addPerson (4, .istore_n 3, 1, 0, []) (List.mem_of_getElem? (i := 2) rfl)) rfl rfl rfl ?_
  refine zp_load (pc := 5) hx hb (zd_X9_addPerson (5, .iload_n 3, 1, 0, []) (List.mem_of_getElem? (i := 3) rfl)) rfl (j := 0) rfl ?_
  refine zp_const (pc := 6) hx hb (zd_X9_addPerson (6, .bipush 6, 2, 0, []) (List.mem_of_getElem? (i := 4) rfl)) rfl rfl ?_
  refine zp_icmp (pc := 8) (tgt := 13) hx hb (zd_X9_addPerson (8, .if_icmp .lt 5, 3, 0, []) (List.mem_of_getElem? (i := 5) rfl)) rfl (fun (hc29 : (pe : Int) < 6) => ?_) (fun (hc29 : ¬ ((pe : Int) < 6)) => ?_)
  · refine zp_load (pc := 13) hx hb (zd_X9_addPerson (13, .aload_n 0, 1, 0, []) (List.mem_of_getElem? (i := 8) rfl)) rfl (j := 1) rfl ?_
    refine zp_getf (n := (go : Int)) (pc := 14) hx hb hE hw (zd_X9_addPerson (14, .getfield 58, 3, 0, []) (List.mem_of_getElem? (i := 9) rfl)) (j := 25) rfl rfl rfl hp hgo ?_
    refine zp_getf (n := (oi : Int)) (pc := 17) hx hb hE hw (zd_X9_addPerson (17, .getfield 97, 3, 0, []) (List.mem_of_getElem? (i := 10) rfl)) (j := 3) rfl rfl rfl qgo hoi ?_
    refine zp_load (pc := 20) hx hb (zd_X9_addPerson (20, .iload_n 3, 1, 0, []) (List.mem_of_getElem? (i := 11) rfl)) rfl (j := 0) rfl ?_
    refine zp_load (pc := 21) hx hb (zd_X9_addPerson (21, .iload_n 1, 1, 0, []) (List.mem_of_getElem? (i := 12) rfl)) rfl (j := 2) rfl ?_
    refine zp_iast (j := pe) (pc := 22) hx hb hw heff (zd_X9_addPerson (22, .iastore, 1, 0, []) (List.mem_of_getElem? (i := 13) rfl)) (show zp_ia 1 17 = some (6, 0, 0, (-2147483648), 2147483647) from rfl) qoi (by omega) (by omega) (zp_o0 (by omega) (by omega) (by omega) (by omega)) rfl ?_
    refine zp_load (pc := 23) hx hb (zd_X9_addPerson (23, .aload_n 0, 1, 0, []) (List.mem_of_getElem? (i := 14) rfl)) rfl (j := 1) rfl ?_
    refine zp_getf (n := (go : Int)) (pc := 24) hx hb hE hw (zd_X9_addPerson (24, .getfield 58, 3, 0, []) (List.mem_of_getElem? (i := 15) rfl)) (j := 25) rfl rfl rfl hp ((zp_set_ne (Or.inl (zp_pne hp qoi (by decide)))).trans (hgo)) ?_
    refine zp_getf (n := (li : Int)) (pc := 27) hx hb hE hw (zd_X9_addPerson (27, .getfield 100, 3, 0, []) (List.mem_of_getElem? (i := 16) rfl)) (j := 4) rfl rfl rfl qgo ((zp_set_ne (Or.inl (zp_pne qgo qoi (by decide)))).trans (hli)) ?_
    refine zp_load (pc := 30) hx hb (zd_X9_addPerson (30, .iload_n 3, 1, 0, []) (List.mem_of_getElem? (i := 17) rfl)) rfl (j := 0) rfl ?_
    refine zp_const (pc := 31) hx hb (zd_X9_addPerson (31, .iconst 0, 1, 0, []) (List.mem_of_getElem? (i := 18) rfl)) rfl rfl ?_
    refine zp_iast (j := pe) (pc := 32) hx hb hw heff (zd_X9_addPerson (32, .iastore, 1, 0, []) (List.mem_of_getElem? (i := 19) rfl)) (show zp_ia 1 18 = some (6, 0, 0, 0, 45) from rfl) qli (by omega) (by omega) (zp_o0 (by omega) (by omega) (by omega) (by omega)) rfl ?_
    refine zp_load (pc := 33) hx hb (zd_X9_addPerson (33, .aload_n 0, 1, 0, []) (List.mem_of_getElem? (i := 20) rfl)) rfl (j := 1) rfl ?_
    refine zp_getf (n := (pc : Int)) (pc := 34) hx hb hE hw (zd_X9_addPerson (34, .getfield 15, 3, 0, []) (List.mem_of_getElem? (i := 21) rfl)) (j := 9) rfl rfl rfl hp ((zp_set_ne (Or.inl (zp_pne hp qli (by decide)))).trans ((zp_set_ne (Or.inl (zp_pne hp qoi (by decide)))).trans (hpc))) ?_
    refine zp_load (pc := 37) hx hb (zd_X9_addPerson (37, .iload_n 3, 1, 0, []) (List.mem_of_getElem? (i := 22) rfl)) rfl (j := 0) rfl ?_
    refine zp_load (pc := 38) hx hb (zd_X9_addPerson (38, .iload_n 2, 1, 0, []) (List.mem_of_getElem? (i := 23) rfl)) rfl (j := 3) rfl ?_
    refine zp_iast (j := pe) (pc := 39) hx hb hw heff (zd_X9_addPerson (39, .iastore, 1, 0, []) (List.mem_of_getElem? (i := 24) rfl)) (show zp_ia 1 43 = some (6, 0, 0, (-2147483648), 2147483647) from rfl) qpc (by omega) (by omega) (zp_o0 (by omega) (by omega) (by omega) (by omega)) rfl ?_
    refine zp_load (pc := 40) hx hb (zd_X9_addPerson (40, .aload_n 0, 1, 0, []) (List.mem_of_getElem? (i := 25) rfl)) rfl (j := 1) rfl ?_
    refine zp_dup (pc := 41) hx hb (zd_X9_addPerson (41, .dup, 1, 0, []) (List.mem_of_getElem? (i := 26) rfl)) (show (2 : Nat) ≠ 1 by decide) ?_
    refine zp_getf (n := (pe : Int)) (pc := 42) hx hb hE hw (zd_X9_addPerson (42, .getfield 68, 3, 0, []) (List.mem_of_getElem? (i := 27) rfl)) (j := 8) rfl rfl rfl hp ((zp_set_ne (Or.inl (zp_pne hp qpc (by decide)))).trans ((zp_set_ne (Or.inl (zp_pne hp qli (by decide)))).trans ((zp_set_ne (Or.inl (zp_pne hp qoi (by decide)))).trans (hpe)))) ?_
    refine zp_const (pc := 45) hx hb (zd_X9_addPerson (45, .iconst 1, 1, 0, []) (List.mem_of_getElem? (i := 28) rfl)) rfl rfl ?_
    refine zp_add (n := ((pe : Int) + 1)) (pc := 46) hx hb (zd_X9_addPerson (46, .iadd, 1, 0, []) (List.mem_of_getElem? (i := 29) rfl)) (by omega) (zp_r0 (by omega) (by omega)) ?_
    refine zp_putf (pc := 47) hx hb hE hw heff (zd_X9_addPerson (47, .putfield 68, 3, 0, []) (List.mem_of_getElem? (i := 30) rfl)) (j := 8) rfl rfl rfl hp (zp_o0 (by omega) (by omega) (by omega) (by omega)) ?_
    refine zp_load (pc := 50) hx hb (zd_X9_addPerson (50, .iload_n 3, 1, 0, []) (List.mem_of_getElem? (i := 31) rfl)) rfl (j := 0) rfl ?_
    have ez0 : (zp_set (zp_set (zp_set (zp_set (zp_n u.2.1) oi (2000 + pe) p1) li (2000 + pe) 0) pc (2000 + pe) p2) a 1 ((pe : Int) + 1)) a 1 = ((pe : Int) + 1) := zp_set_self
    refine zp_iret (pc := 51) (n := (pe : Int)) hx hb hE hQ hU5 rfl (by decide) (zd_X9_addPerson (51, .ireturn, 1, 0, []) (List.mem_of_getElem? (i := 32) rfl)) (j := 0) rfl (zp_o0 (by omega) (by omega) (by omega) (by omega)) ?_
    rw [hps]
    refine ⟨rfl, ?_⟩
    show (pe : Int) = zp_n u.2.1 a 1 ∧ (zp_set (zp_set (zp_set (zp_set (zp_n u.2.1) oi (2000 + pe) p1) li (2000 + pe) 0) pc (2000 + pe) p2) a 1 ((pe : Int) + 1)) a 1 = zp_n u.2.1 a 1 + 1
    omega
  · refine zp_const (pc := 11) hx hb (zd_X9_addPerson (11, .iconst (-1), 1, 0, []) (List.mem_of_getElem? (i := 6) rfl)) rfl rfl ?_
    have ez0 : (zp_n u.2.1) a 1 = (pe : Int) := hpe
    refine zp_iret (pc := 12) (n := (-1)) hx hb hE hQ hU5 rfl (by decide) (zd_X9_addPerson (12, .ireturn, 1, 0, []) (List.mem_of_getElem? (i := 7) rfl)) (j := 0) rfl (zp_o0 (by omega) (by omega) (by omega) (by omega)) ?_
    rw [hps]
    refine ⟨rfl, ?_⟩
    show (-1) = zp_n u.2.1 a 1 ∧ (zp_n u.2.1) a 1 = zp_n u.2.1 a 1 + 1
    omega
def zK_awk : zk_K := (zt_mn 28, prog_11_method_8_code, 7, (Option.some Jvm.ClassFile.FieldType.int), 1, 9, [(2, 10, 0, 0), (0, 0, (-2147483648), 2147483647), (0, 0, (-2147483648), 2147483647), (0, 0, (-2147483648), 2147483647), (0, 0, (-2147483648), 2147483647), (0, 0, (-2147483648), 2147483647)], [(some (0, 0, (-1), 9), [])], [(44, 1001, 0), (45, 1001, 0), (46, 1001, 0), (47, 1001, 0), (48, 1001, 0), (19, 1001, 0), (10, 3, 0)], (0, 0, 0, 0))
def zφ_awk : (Nat → Option Nat) → (Nat → Nat → Int) → List Int → Prop := fun _ G ps => G (zp_0 ps) 3 < 10
def zψ_awk : (Nat → Option Nat) → (Nat → Nat → Int) → List Int → (Nat → Option Nat) → (Nat → Nat → Int) → Int → Prop := fun P G ps P' G' rn => P' = P ∧ rn = G (zp_0 ps) 3 ∧ G' (zp_0 ps) 3 = G (zp_0 ps) 3 + 1
theorem zX_awk {l : Launch} {w : zk_W} (hW : zh_W w) : zk_metX l w zt_dv zt_TB zK_awk (zp_A zφ_awk) (zp_B zψ_awk) ∧ zk_cok w zt_TB zK_awk := by
  refine zp_methX (cn := "WoundTown$Town") zp_lkallN hW (pl := 660) rfl (by decide +kernel) (fun p e R s m args below meth c Q u hx hb hE hQ hU5 heff hnL hok hφ => ?_)
  have hw := hW.1
  obtain ⟨p0, p1, p2, p3, p4, p5, hps, k0, k1, k2, k3, k4, k5⟩ := zp_ps6 hok
  obtain ⟨a, rfl, hp⟩ := zp_this k0
  have hrm : zk_Kr (zk_ev (zt_types, zp_lkN, zt_dv, [], [], zp_lcN, zK_awk)) = zk_Kr zK_awk := rfl
  rw [hps] at hφ ⊢
  have hi1 := zp_int k1
  have hi2 := zp_int k2
  have hi3 := zp_int k3
  have hi4 := zp_int k4
  have hi5 := zp_int k5
  show zp_J p l e R s m args below meth c Q w u [] 0 [(0, 2, (a : Int)), (1, 0, p1), (2, 0, p2), (3, 0, p3), (4, 0, p4), (5, 0, p5)] [] u.1 (zp_n u.2.1)
  have hφ : zp_n u.2.1 a 3 < 10 := hφ
  refine zp_kn (k := 3) (a := a) hw (show zp_fd 10 3 = some (9, 0, 0, 0, 10) from rfl) rfl hp (fun hkwk => ?_)
  obtain ⟨wk, hwk⟩ := zp_nat (zp_int hkwk).1
  have hwkb := zp_int hkwk
  rw [hwk] at hwkb
  rw [hwk] at hφ
  refine zp_kn (k := 4) (a := a) hw (show zp_fd 10 4 = some (9, 2, 44, 0, 0) from rfl) rfl hp (fun hkow => ?_)
  obtain ⟨ow, how, qow⟩ := zp_this hkow
  refine zp_kn (k := 5) (a := a) hw (show zp_fd 10 5 = some (9, 2, 45, 0, 0) from rfl) rfl hp (fun hkmi => ?_)
  obtain ⟨mi, hmi, qmi⟩ := zp_this hkmi
  refine zp_kn (k := 6) (a := a) hw (show zp_fd 10 6 = some (9, 2, 46, 0, 0) from rfl) rfl hp (fun hkdu => ?_)
  obtain ⟨du, hdu, qdu⟩ := zp_this hkdu
  refine zp_kn (k := 7) (a := a) hw (show zp_fd 10 7 = some (9, 2, 47, 0, 0) from rfl) rfl hp (fun hkwo => ?_)
  obtain ⟨wo, hwo, qwo⟩ := zp_this hkwo
  refine zp_kn (k := 8) (a := a) hw (show zp_fd 10 8 = some (9, 2, 48, 0, 0) from rfl) rfl hp (fun hkah => ?_)
  obtain ⟨ah, hah, qah⟩ := zp_this hkah
  refine zp_kn (k := 18) (a := a) hw (show zp_fd 10 18 = some (9, 2, 2, 0, 0) from rfl) rfl hp (fun hkgo => ?_)
  obtain ⟨go, hgo, qgo⟩ := zp_this hkgo
  refine zp_kn (k := 2) (a := go) hw (show zp_fd 2 2 = some (2, 2, 19, 0, 0) from rfl) rfl qgo (fun hkdn => ?_)
  obtain ⟨dn, hdn, qdn⟩ := zp_this hkdn
  refine zp_load (pc := 0) hx hb (zd_X9_addWork (0, .aload_n 0, 1, 0, []) (List.mem_of_getElem? (i := 0) rfl)) rfl (j := 0) rfl ?_
  refine zp_getf (n := (wk : Int)) (pc := 1) hx hb hE hw (zd_X9_addWork (1, .getfield 71, 3, 0, []) (List.mem_of_getElem? (i := 1) rfl)) (j := 10) rfl rfl rfl hp hwk ?_
  refine zp_store (L' := [(6, 0, (wk : Int)), (0, 2, (a : Int)), (1, 0, p1), (2, 0, p2), (3, 0, p3), (4, 0, p4), (5, 0, p5)]) (pc := 4) hx hb hnL (zd_X9_addWork (4, .istore 6, 2, 0, []) (List.mem_of_getElem? (i := 2) rfl)) rfl rfl rfl ?_
  refine zp_load (pc := 6) hx hb (zd_X9_addWork (6, .iload 6, 2, 0, []) (List.mem_of_getElem? (i := 3) rfl)) rfl (j := 0) rfl ?_
  refine zp_const (pc := 8) hx hb (zd_X9_addWork (8, .bipush 10, 2, 0, []) (List.mem_of_getElem? (i := 4) rfl)) rfl rfl ?_
  refine zp_icmp (pc := 10) (tgt := 15) hx hb (zd_X9_addWork (10, .if_icmp .lt 5, 3, 0, []) (List.mem_of_getElem? (i := 5) rfl)) rfl (fun (hc30 : (wk : Int) < 10) => ?_) (fun (hc30 : ¬ ((wk : Int) < 10)) => ?_)
  · refine zp_load (pc := 15) hx hb (zd_X9_addWork (15, .aload_n 0, 1, 0, []) (List.mem_of_getElem? (i := 8) rfl)) rfl (j := 1) rfl ?_
    refine zp_getf (n := (ow : Int)) (pc := 16) hx hb hE hw (zd_X9_addWork (16, .getfield 18, 3, 0, []) (List.mem_of_getElem? (i := 9) rfl)) (j := 11) rfl rfl rfl hp how ?_
    refine zp_load (pc := 19) hx hb (zd_X9_addWork (19, .iload 6, 2, 0, []) (List.mem_of_getElem? (i := 10) rfl)) rfl (j := 0) rfl ?_
    refine zp_load (pc := 21) hx hb (zd_X9_addWork (21, .iload_n 1, 1, 0, []) (List.mem_of_getElem? (i := 11) rfl)) rfl (j := 2) rfl ?_
    refine zp_iast (j := wk) (pc := 22) hx hb hw heff (zd_X9_addWork (22, .iastore, 1, 0, []) (List.mem_of_getElem? (i := 12) rfl)) (show zp_ia 1 44 = some (10, 0, 0, (-2147483648), 2147483647) from rfl) qow (by omega) (by omega) (zp_o0 (by omega) (by omega) (by omega) (by omega)) rfl ?_
    refine zp_load (pc := 23) hx hb (zd_X9_addWork (23, .aload_n 0, 1, 0, []) (List.mem_of_getElem? (i := 13) rfl)) rfl (j := 1) rfl ?_
    refine zp_getf (n := (mi : Int)) (pc := 24) hx hb hE hw (zd_X9_addWork (24, .getfield 21, 3, 0, []) (List.mem_of_getElem? (i := 14) rfl)) (j := 12) rfl rfl rfl hp ((zp_set_ne (Or.inl (zp_pne hp qow (by decide)))).trans (hmi)) ?_
    refine zp_load (pc := 27) hx hb (zd_X9_addWork (27, .iload 6, 2, 0, []) (List.mem_of_getElem? (i := 15) rfl)) rfl (j := 0) rfl ?_
    refine zp_load (pc := 29) hx hb (zd_X9_addWork (29, .iload_n 2, 1, 0, []) (List.mem_of_getElem? (i := 16) rfl)) rfl (j := 3) rfl ?_
    refine zp_iast (j := wk) (pc := 30) hx hb hw heff (zd_X9_addWork (30, .iastore, 1, 0, []) (List.mem_of_getElem? (i := 17) rfl)) (show zp_ia 1 45 = some (10, 0, 0, (-2147483648), 2147483647) from rfl) qmi (by omega) (by omega) (zp_o0 (by omega) (by omega) (by omega) (by omega)) rfl ?_
    refine zp_load (pc := 31) hx hb (zd_X9_addWork (31, .aload_n 0, 1, 0, []) (List.mem_of_getElem? (i := 18) rfl)) rfl (j := 1) rfl ?_
    refine zp_getf (n := (du : Int)) (pc := 32) hx hb hE hw (zd_X9_addWork (32, .getfield 24, 3, 0, []) (List.mem_of_getElem? (i := 19) rfl)) (j := 13) rfl rfl rfl hp ((zp_set_ne (Or.inl (zp_pne hp qmi (by decide)))).trans ((zp_set_ne (Or.inl (zp_pne hp qow (by decide)))).trans (hdu))) ?_
    refine zp_load (pc := 35) hx hb (zd_X9_addWork (35, .iload 6, 2, 0, []) (List.mem_of_getElem? (i := 20) rfl)) rfl (j := 0) rfl ?_
    refine zp_load (pc := 37) hx hb (zd_X9_addWork (37, .iload_n 3, 1, 0, []) (List.mem_of_getElem? (i := 21) rfl)) rfl (j := 4) rfl ?_
    refine zp_iast (j := wk) (pc := 38) hx hb hw heff (zd_X9_addWork (38, .iastore, 1, 0, []) (List.mem_of_getElem? (i := 22) rfl)) (show zp_ia 1 46 = some (10, 0, 0, (-2147483648), 2147483647) from rfl) qdu (by omega) (by omega) (zp_o0 (by omega) (by omega) (by omega) (by omega)) rfl ?_
    refine zp_load (pc := 39) hx hb (zd_X9_addWork (39, .aload_n 0, 1, 0, []) (List.mem_of_getElem? (i := 23) rfl)) rfl (j := 1) rfl ?_
    refine zp_getf (n := (wo : Int)) (pc := 40) hx hb hE hw (zd_X9_addWork (40, .getfield 27, 3, 0, []) (List.mem_of_getElem? (i := 24) rfl)) (j := 14) rfl rfl rfl hp ((zp_set_ne (Or.inl (zp_pne hp qdu (by decide)))).trans ((zp_set_ne (Or.inl (zp_pne hp qmi (by decide)))).trans ((zp_set_ne (Or.inl (zp_pne hp qow (by decide)))).trans (hwo)))) ?_
    refine zp_load (pc := 43) hx hb (zd_X9_addWork (43, .iload 6, 2, 0, []) (List.mem_of_getElem? (i := 25) rfl)) rfl (j := 0) rfl ?_
    refine zp_load (pc := 45) hx hb (zd_X9_addWork (45, .iload 4, 2, 0, []) (List.mem_of_getElem? (i := 26) rfl)) rfl (j := 5) rfl ?_
    refine zp_iast (j := wk) (pc := 47) hx hb hw heff (zd_X9_addWork (47, .iastore, 1, 0, []) (List.mem_of_getElem? (i := 27) rfl)) (show zp_ia 1 47 = some (10, 0, 0, (-2147483648), 2147483647) from rfl) qwo (by omega) (by omega) (zp_o0 (by omega) (by omega) (by omega) (by omega)) rfl ?_
    refine zp_load (pc := 48) hx hb (zd_X9_addWork (48, .aload_n 0, 1, 0, []) (List.mem_of_getElem? (i := 28) rfl)) rfl (j := 1) rfl ?_
    refine zp_getf (n := (ah : Int)) (pc := 49) hx hb hE hw (zd_X9_addWork (49, .getfield 30, 3, 0, []) (List.mem_of_getElem? (i := 29) rfl)) (j := 15) rfl rfl rfl hp ((zp_set_ne (Or.inl (zp_pne hp qwo (by decide)))).trans ((zp_set_ne (Or.inl (zp_pne hp qdu (by decide)))).trans ((zp_set_ne (Or.inl (zp_pne hp qmi (by decide)))).trans ((zp_set_ne (Or.inl (zp_pne hp qow (by decide)))).trans (hah))))) ?_
    refine zp_load (pc := 52) hx hb (zd_X9_addWork (52, .iload 6, 2, 0, []) (List.mem_of_getElem? (i := 30) rfl)) rfl (j := 0) rfl ?_
    refine zp_load (pc := 54) hx hb (zd_X9_addWork (54, .iload 5, 2, 0, []) (List.mem_of_getElem? (i := 31) rfl)) rfl (j := 6) rfl ?_
    refine zp_iast (j := wk) (pc := 56) hx hb hw heff (zd_X9_addWork (56, .iastore, 1, 0, []) (List.mem_of_getElem? (i := 32) rfl)) (show zp_ia 1 48 = some (10, 0, 0, (-2147483648), 2147483647) from rfl) qah (by omega) (by omega) (zp_o0 (by omega) (by omega) (by omega) (by omega)) rfl ?_
    refine zp_load (pc := 57) hx hb (zd_X9_addWork (57, .aload_n 0, 1, 0, []) (List.mem_of_getElem? (i := 33) rfl)) rfl (j := 1) rfl ?_
    refine zp_getf (n := (go : Int)) (pc := 58) hx hb hE hw (zd_X9_addWork (58, .getfield 58, 3, 0, []) (List.mem_of_getElem? (i := 34) rfl)) (j := 25) rfl rfl rfl hp ((zp_set_ne (Or.inl (zp_pne hp qah (by decide)))).trans ((zp_set_ne (Or.inl (zp_pne hp qwo (by decide)))).trans ((zp_set_ne (Or.inl (zp_pne hp qdu (by decide)))).trans ((zp_set_ne (Or.inl (zp_pne hp qmi (by decide)))).trans ((zp_set_ne (Or.inl (zp_pne hp qow (by decide)))).trans (hgo)))))) ?_
    refine zp_getf (n := (dn : Int)) (pc := 61) hx hb hE hw (zd_X9_addWork (61, .getfield 91, 3, 0, []) (List.mem_of_getElem? (i := 35) rfl)) (j := 5) rfl rfl rfl qgo ((zp_set_ne (Or.inl (zp_pne qgo qah (by decide)))).trans ((zp_set_ne (Or.inl (zp_pne qgo qwo (by decide)))).trans ((zp_set_ne (Or.inl (zp_pne qgo qdu (by decide)))).trans ((zp_set_ne (Or.inl (zp_pne qgo qmi (by decide)))).trans ((zp_set_ne (Or.inl (zp_pne qgo qow (by decide)))).trans (hdn)))))) ?_
    refine zp_load (pc := 64) hx hb (zd_X9_addWork (64, .iload 6, 2, 0, []) (List.mem_of_getElem? (i := 36) rfl)) rfl (j := 0) rfl ?_
    refine zp_const (pc := 66) hx hb (zd_X9_addWork (66, .iconst 0, 1, 0, []) (List.mem_of_getElem? (i := 37) rfl)) rfl rfl ?_
    refine zp_iast (j := wk) (pc := 67) hx hb hw heff (zd_X9_addWork (67, .iastore, 1, 0, []) (List.mem_of_getElem? (i := 38) rfl)) (show zp_ia 1 19 = some (10, 0, 0, (-2147483648), 2147483647) from rfl) qdn (by omega) (by omega) (zp_o0 (by omega) (by omega) (by omega) (by omega)) rfl ?_
    refine zp_load (pc := 68) hx hb (zd_X9_addWork (68, .aload_n 0, 1, 0, []) (List.mem_of_getElem? (i := 39) rfl)) rfl (j := 1) rfl ?_
    refine zp_dup (pc := 69) hx hb (zd_X9_addWork (69, .dup, 1, 0, []) (List.mem_of_getElem? (i := 40) rfl)) (show (2 : Nat) ≠ 1 by decide) ?_
    refine zp_getf (n := (wk : Int)) (pc := 70) hx hb hE hw (zd_X9_addWork (70, .getfield 71, 3, 0, []) (List.mem_of_getElem? (i := 41) rfl)) (j := 10) rfl rfl rfl hp ((zp_set_ne (Or.inl (zp_pne hp qdn (by decide)))).trans ((zp_set_ne (Or.inl (zp_pne hp qah (by decide)))).trans ((zp_set_ne (Or.inl (zp_pne hp qwo (by decide)))).trans ((zp_set_ne (Or.inl (zp_pne hp qdu (by decide)))).trans ((zp_set_ne (Or.inl (zp_pne hp qmi (by decide)))).trans ((zp_set_ne (Or.inl (zp_pne hp qow (by decide)))).trans (hwk))))))) ?_
    refine zp_const (pc := 73) hx hb (zd_X9_addWork (73, .iconst 1, 1, 0, []) (List.mem_of_getElem? (i := 42) rfl)) rfl rfl ?_
    refine zp_add (n := ((wk : Int) + 1)) (pc := 74) hx hb (zd_X9_addWork (74, .iadd, 1, 0, []) (List.mem_of_getElem? (i := 43) rfl)) (by omega) (zp_r0 (by omega) (by omega)) ?_
    refine zp_putf (pc := 75) hx hb hE hw heff (zd_X9_addWork (75, .putfield 71, 3, 0, []) (List.mem_of_getElem? (i := 44) rfl)) (j := 10) rfl rfl rfl hp (zp_o0 (by omega) (by omega) (by omega) (by omega)) ?_
    refine zp_load (pc := 78) hx hb (zd_X9_addWork (78, .iload 6, 2, 0, []) (List.mem_of_getElem? (i := 45) rfl)) rfl (j := 0) rfl ?_
    have ez0 : (zp_set (zp_set (zp_set (zp_set (zp_set (zp_set (zp_set (zp_n u.2.1) ow (2000 + wk) p1) mi (2000 + wk) p2) du (2000 + wk) p3) wo (2000 + wk) p4) ah (2000 + wk) p5) dn (2000 + wk) 0) a 3 ((wk : Int) + 1)) a 3 = ((wk : Int) + 1) := zp_set_self
    refine zp_iret (pc := 80) (n := (wk : Int)) hx hb hE hQ hU5 rfl (by decide) (zd_X9_addWork (80, .ireturn, 1, 0, []) (List.mem_of_getElem? (i := 46) rfl)) (j := 0) rfl (zp_o0 (by omega) (by omega) (by omega) (by omega)) ?_
    rw [hps]
    refine ⟨rfl, ?_⟩
    show (wk : Int) = zp_n u.2.1 a 3 ∧ (zp_set (zp_set (zp_set (zp_set (zp_set (zp_set (zp_set (zp_n u.2.1) ow (2000 + wk) p1) mi (2000 + wk) p2) du (2000 + wk) p3) wo (2000 + wk) p4) ah (2000 + wk) p5) dn (2000 + wk) 0) a 3 ((wk : Int) + 1)) a 3 = zp_n u.2.1 a 3 + 1
    omega
  · refine zp_const (pc := 13) hx hb (zd_X9_addWork (13, .iconst (-1), 1, 0, []) (List.mem_of_getElem? (i := 6) rfl)) rfl rfl ?_
    have ez0 : (zp_n u.2.1) a 3 = (wk : Int) := hwk
    refine zp_iret (pc := 14) (n := (-1)) hx hb hE hQ hU5 rfl (by decide) (zd_X9_addWork (14, .ireturn, 1, 0, []) (List.mem_of_getElem? (i := 7) rfl)) (j := 0) rfl (zp_o0 (by omega) (by omega) (by omega) (by omega)) ?_
    rw [hps]
    refine ⟨rfl, ?_⟩
    show (-1) = zp_n u.2.1 a 3 ∧ (zp_n u.2.1) a 3 = zp_n u.2.1 a 3 + 1
    omega
def zK_asg : zk_K := (zt_mn 152, prog_11_method_9_code, 4, (Option.none : Option Jvm.ClassFile.FieldType), 1, 9, [(2, 10, 0, 0), (0, 0, (-2147483648), 2147483647), (0, 0, (-2147483648), 2147483647), (0, 0, (-2147483648), 2147483647)], [(none, [])], [(49, 1001, 0), (50, 1001, 0), (51, 1001, 0), (10, 9, 0)], (0, 0, 0, 0))
def zφ_asg : (Nat → Option Nat) → (Nat → Nat → Int) → List Int → Prop := fun _ G ps => G (zp_0 ps) 9 < 8
def zψ_asg : (Nat → Option Nat) → (Nat → Nat → Int) → List Int → (Nat → Option Nat) → (Nat → Nat → Int) → Int → Prop := fun P G ps P' G' rn => P' = P ∧ G' (zp_0 ps) 9 = G (zp_0 ps) 9 + 1
theorem zX_asg {l : Launch} {w : zk_W} (hW : zh_W w) : zk_metX l w zt_dv zt_TB zK_asg (zp_A zφ_asg) (zp_B zψ_asg) ∧ zk_cok w zt_TB zK_asg := by
  refine zp_methX (cn := "WoundTown$Town") zp_lkallN hW (pl := 1207) rfl (by decide +kernel) (fun p e R s m args below meth c Q u hx hb hE hQ hU5 heff hnL hok hφ => ?_)
  have hw := hW.1
  obtain ⟨p0, p1, p2, p3, hps, k0, k1, k2, k3⟩ := zp_ps4 hok
  obtain ⟨a, rfl, hp⟩ := zp_this k0
  have hrm : zk_Kr (zk_ev (zt_types, zp_lkN, zt_dv, [], [], zp_lcN, zK_asg)) = zk_Kr zK_asg := rfl
  rw [hps] at hφ ⊢
  have hi1 := zp_int k1
  have hi2 := zp_int k2
  have hi3 := zp_int k3
  show zp_J p l e R s m args below meth c Q w u [] 0 [(0, 2, (a : Int)), (1, 0, p1), (2, 0, p2), (3, 0, p3)] [] u.1 (zp_n u.2.1)
  have hφ : zp_n u.2.1 a 9 < 8 := hφ
  refine zp_kn (k := 9) (a := a) hw (show zp_fd 10 9 = some (9, 0, 0, 0, 8) from rfl) rfl hp (fun hksg => ?_)
  obtain ⟨sg, hsg⟩ := zp_nat (zp_int hksg).1
  have hsgb := zp_int hksg
  rw [hsg] at hsgb
  rw [hsg] at hφ
  refine zp_kn (k := 10) (a := a) hw (show zp_fd 10 10 = some (9, 2, 49, 0, 0) from rfl) rfl hp (fun hks0 => ?_)
  obtain ⟨s0, hs0, qs0⟩ := zp_this hks0
  refine zp_kn (k := 11) (a := a) hw (show zp_fd 10 11 = some (9, 2, 50, 0, 0) from rfl) rfl hp (fun hks1 => ?_)
  obtain ⟨s1, hs1, qs1⟩ := zp_this hks1
  refine zp_kn (k := 12) (a := a) hw (show zp_fd 10 12 = some (9, 2, 51, 0, 0) from rfl) rfl hp (fun hks2 => ?_)
  obtain ⟨s2, hs2, qs2⟩ := zp_this hks2
  refine zp_load (pc := 0) hx hb (zd_X9_addSight (0, .aload_n 0, 1, 0, []) (List.mem_of_getElem? (i := 0) rfl)) rfl (j := 0) rfl ?_
  refine zp_getf (n := (sg : Int)) (pc := 1) hx hb hE hw (zd_X9_addSight (1, .getfield 74, 3, 0, []) (List.mem_of_getElem? (i := 1) rfl)) (j := 16) rfl rfl rfl hp hsg ?_
  refine zp_const (pc := 4) hx hb (zd_X9_addSight (4, .bipush 8, 2, 0, []) (List.mem_of_getElem? (i := 2) rfl)) rfl rfl ?_
  refine zp_icmp (pc := 6) (tgt := 10) hx hb (zd_X9_addSight (6, .if_icmp .lt 4, 3, 0, []) (List.mem_of_getElem? (i := 3) rfl)) rfl (fun (hc31 : (sg : Int) < 8) => ?_) (fun (hc31 : ¬ ((sg : Int) < 8)) => ?_)
  · refine zp_load (pc := 10) hx hb (zd_X9_addSight (10, .aload_n 0, 1, 0, []) (List.mem_of_getElem? (i := 5) rfl)) rfl (j := 0) rfl ?_
    refine zp_getf (n := (s0 : Int)) (pc := 11) hx hb hE hw (zd_X9_addSight (11, .getfield 33, 3, 0, []) (List.mem_of_getElem? (i := 6) rfl)) (j := 17) rfl rfl rfl hp hs0 ?_
    refine zp_load (pc := 14) hx hb (zd_X9_addSight (14, .aload_n 0, 1, 0, []) (List.mem_of_getElem? (i := 7) rfl)) rfl (j := 0) rfl ?_
    refine zp_getf (n := (sg : Int)) (pc := 15) hx hb hE hw (zd_X9_addSight (15, .getfield 74, 3, 0, []) (List.mem_of_getElem? (i := 8) rfl)) (j := 16) rfl rfl rfl hp hsg ?_
    refine zp_load (pc := 18) hx hb (zd_X9_addSight (18, .iload_n 1, 1, 0, []) (List.mem_of_getElem? (i := 9) rfl)) rfl (j := 1) rfl ?_
    refine zp_iast (j := sg) (pc := 19) hx hb hw heff (zd_X9_addSight (19, .iastore, 1, 0, []) (List.mem_of_getElem? (i := 10) rfl)) (show zp_ia 1 49 = some (8, 0, 0, (-2147483648), 2147483647) from rfl) qs0 (by omega) (by omega) (zp_o0 (by omega) (by omega) (by omega) (by omega)) rfl ?_
    refine zp_load (pc := 20) hx hb (zd_X9_addSight (20, .aload_n 0, 1, 0, []) (List.mem_of_getElem? (i := 11) rfl)) rfl (j := 0) rfl ?_
    refine zp_getf (n := (s1 : Int)) (pc := 21) hx hb hE hw (zd_X9_addSight (21, .getfield 36, 3, 0, []) (List.mem_of_getElem? (i := 12) rfl)) (j := 18) rfl rfl rfl hp ((zp_set_ne (Or.inl (zp_pne hp qs0 (by decide)))).trans (hs1)) ?_
    refine zp_load (pc := 24) hx hb (zd_X9_addSight (24, .aload_n 0, 1, 0, []) (List.mem_of_getElem? (i := 13) rfl)) rfl (j := 0) rfl ?_
    refine zp_getf (n := (sg : Int)) (pc := 25) hx hb hE hw (zd_X9_addSight (25, .getfield 74, 3, 0, []) (List.mem_of_getElem? (i := 14) rfl)) (j := 16) rfl rfl rfl hp ((zp_set_ne (Or.inl (zp_pne hp qs0 (by decide)))).trans (hsg)) ?_
    refine zp_load (pc := 28) hx hb (zd_X9_addSight (28, .iload_n 2, 1, 0, []) (List.mem_of_getElem? (i := 15) rfl)) rfl (j := 2) rfl ?_
    refine zp_iast (j := sg) (pc := 29) hx hb hw heff (zd_X9_addSight (29, .iastore, 1, 0, []) (List.mem_of_getElem? (i := 16) rfl)) (show zp_ia 1 50 = some (8, 0, 0, (-2147483648), 2147483647) from rfl) qs1 (by omega) (by omega) (zp_o0 (by omega) (by omega) (by omega) (by omega)) rfl ?_
    refine zp_load (pc := 30) hx hb (zd_X9_addSight (30, .aload_n 0, 1, 0, []) (List.mem_of_getElem? (i := 17) rfl)) rfl (j := 0) rfl ?_
    refine zp_getf (n := (s2 : Int)) (pc := 31) hx hb hE hw (zd_X9_addSight (31, .getfield 39, 3, 0, []) (List.mem_of_getElem? (i := 18) rfl)) (j := 19) rfl rfl rfl hp ((zp_set_ne (Or.inl (zp_pne hp qs1 (by decide)))).trans ((zp_set_ne (Or.inl (zp_pne hp qs0 (by decide)))).trans (hs2))) ?_
    refine zp_load (pc := 34) hx hb (zd_X9_addSight (34, .aload_n 0, 1, 0, []) (List.mem_of_getElem? (i := 19) rfl)) rfl (j := 0) rfl ?_
    refine zp_getf (n := (sg : Int)) (pc := 35) hx hb hE hw (zd_X9_addSight (35, .getfield 74, 3, 0, []) (List.mem_of_getElem? (i := 20) rfl)) (j := 16) rfl rfl rfl hp ((zp_set_ne (Or.inl (zp_pne hp qs1 (by decide)))).trans ((zp_set_ne (Or.inl (zp_pne hp qs0 (by decide)))).trans (hsg))) ?_
    refine zp_load (pc := 38) hx hb (zd_X9_addSight (38, .iload_n 3, 1, 0, []) (List.mem_of_getElem? (i := 21) rfl)) rfl (j := 3) rfl ?_
    refine zp_iast (j := sg) (pc := 39) hx hb hw heff (zd_X9_addSight (39, .iastore, 1, 0, []) (List.mem_of_getElem? (i := 22) rfl)) (show zp_ia 1 51 = some (8, 0, 0, (-2147483648), 2147483647) from rfl) qs2 (by omega) (by omega) (zp_o0 (by omega) (by omega) (by omega) (by omega)) rfl ?_
    refine zp_load (pc := 40) hx hb (zd_X9_addSight (40, .aload_n 0, 1, 0, []) (List.mem_of_getElem? (i := 23) rfl)) rfl (j := 0) rfl ?_
    refine zp_dup (pc := 41) hx hb (zd_X9_addSight (41, .dup, 1, 0, []) (List.mem_of_getElem? (i := 24) rfl)) (show (2 : Nat) ≠ 1 by decide) ?_
    refine zp_getf (n := (sg : Int)) (pc := 42) hx hb hE hw (zd_X9_addSight (42, .getfield 74, 3, 0, []) (List.mem_of_getElem? (i := 25) rfl)) (j := 16) rfl rfl rfl hp ((zp_set_ne (Or.inl (zp_pne hp qs2 (by decide)))).trans ((zp_set_ne (Or.inl (zp_pne hp qs1 (by decide)))).trans ((zp_set_ne (Or.inl (zp_pne hp qs0 (by decide)))).trans (hsg)))) ?_
    refine zp_const (pc := 45) hx hb (zd_X9_addSight (45, .iconst 1, 1, 0, []) (List.mem_of_getElem? (i := 26) rfl)) rfl rfl ?_
    refine zp_add (n := ((sg : Int) + 1)) (pc := 46) hx hb (zd_X9_addSight (46, .iadd, 1, 0, []) (List.mem_of_getElem? (i := 27) rfl)) (by omega) (zp_r0 (by omega) (by omega)) ?_
    refine zp_putf (pc := 47) hx hb hE hw heff (zd_X9_addSight (47, .putfield 74, 3, 0, []) (List.mem_of_getElem? (i := 28) rfl)) (j := 16) rfl rfl rfl hp (zp_o0 (by omega) (by omega) (by omega) (by omega)) ?_
    have ez0 : (zp_set (zp_set (zp_set (zp_set (zp_n u.2.1) s0 (2000 + sg) p1) s1 (2000 + sg) p2) s2 (2000 + sg) p3) a 9 ((sg : Int) + 1)) a 9 = ((sg : Int) + 1) := zp_set_self
    refine zp_vret (pc := 50) hx hb hE hQ hU5 rfl (by decide) (zd_X9_addSight (50, .return_, 1, 0, []) (List.mem_of_getElem? (i := 29) rfl)) (j := 0) rfl ?_
    rw [hps]
    refine ⟨rfl, ?_⟩
    show (zp_set (zp_set (zp_set (zp_set (zp_n u.2.1) s0 (2000 + sg) p1) s1 (2000 + sg) p2) s2 (2000 + sg) p3) a 9 ((sg : Int) + 1)) a 9 = zp_n u.2.1 a 9 + 1
    omega
  · have ez0 : (zp_n u.2.1) a 9 = (sg : Int) := hsg
    refine zp_vret (pc := 9) hx hb hE hQ hU5 rfl (by decide) (zd_X9_addSight (9, .return_, 1, 0, []) (List.mem_of_getElem? (i := 4) rfl)) (j := 0) rfl ?_
    rw [hps]
    refine ⟨rfl, ?_⟩
    show (zp_n u.2.1) a 9 = zp_n u.2.1 a 9 + 1
    omega
def zK_pes : zk_K := (zt_mn 18, prog_1_method_3_code, 3, (Option.some Jvm.ClassFile.FieldType.int), 1, 11, [(2, 12, 0, 0), (0, 0, (-2147483648), 2147483647), (0, 0, (-2147483648), 2147483647)], [(some (0, 0, (-5), 5), [])], [(17, 1001, 0), (18, 1001, 0), (43, 1001, 0), (10, 1, 0), (12, 18, 0), (57, 1002, 0), (11, 3, 0)], (1, 40, 0, 0))
def zψ_pes : (Nat → Option Nat) → (Nat → Nat → Int) → List Int → (Nat → Option Nat) → (Nat → Nat → Int) → Int → Prop := fun P G ps P' G' rn => (¬ (0 ≤ ps.getD 1 0 ∧ ps.getD 1 0 ≤ 9 ∧ 0 ≤ ps.getD 2 0 ∧ ps.getD 2 0 ≤ 7) → rn = -1 ∧ G' (G (zp_0 ps) 0).toNat 1 = G (G (zp_0 ps) 0).toNat 1) ∧ ((0 ≤ ps.getD 1 0 ∧ ps.getD 1 0 ≤ 9 ∧ 0 ≤ ps.getD 2 0 ∧ ps.getD 2 0 ≤ 7) ∧ 6 ≤ G (G (zp_0 ps) 0).toNat 1 → rn = -5 ∧ G' (G (zp_0 ps) 0).toNat 1 = G (G (zp_0 ps) 0).toNat 1) ∧ ((0 ≤ ps.getD 1 0 ∧ ps.getD 1 0 ≤ 9 ∧ 0 ≤ ps.getD 2 0 ∧ ps.getD 2 0 ≤ 7) ∧ G (G (zp_0 ps) 0).toNat 1 < 6 → rn = G (G (zp_0 ps) 0).toNat 1 ∧ G' (G (zp_0 ps) 0).toNat 1 = G (G (zp_0 ps) 0).toNat 1 + 1)
theorem zX_pes {l : Launch} {w : zk_W} (hW : zh_W w) : zk_metX l w zt_dv zt_TB zK_pes (zp_A zp_tA) (zp_B zψ_pes) ∧ zk_cok w zt_TB zK_pes := by
  refine zp_methX (cn := "WoundTown") zp_lkallW hW (pl := 619) rfl (by decide +kernel) (fun p e R s m args below meth c Q u hx hb hE hQ hU5 heff hnL hok hφ => ?_)
  have hw := hW.1
  obtain ⟨p0, p1, p2, hps, k0, k1, k2⟩ := zp_ps3 hok
  obtain ⟨a, rfl, hp⟩ := zp_this k0
  have hrm : zk_Kr (zk_ev (zt_types, zp_lkW, zt_dv, [], [], zp_lcW, zK_pes)) = zk_Kr zK_pes := rfl
  rw [hps] at hφ ⊢
  have hi1 := zp_int k1
  have hi2 := zp_int k2
  show zp_J p l e R s m args below meth c Q w u [] 0 [(0, 2, (a : Int)), (1, 0, p1), (2, 0, p2)] [] u.1 (zp_n u.2.1)
  refine zp_kn (k := 0) (a := a) hw (show zp_fd 12 0 = some (11, 2, 10, 0, 0) from rfl) rfl hp (fun hktn => ?_)
  obtain ⟨tn, htn, qtn⟩ := zp_this hktn
  refine zp_kn (k := 1) (a := tn) hw (show zp_fd 10 1 = some (9, 0, 0, 0, 6) from rfl) rfl qtn (fun hkpe => ?_)
  obtain ⟨pe, hpe⟩ : ∃ z0 : Int, (zp_n u.2.1) tn 1 = z0 := ⟨_, rfl⟩
  have hpeb := zp_int hkpe
  rw [hpe] at hpeb
  refine zp_kn (k := 2) (a := a) hw (show zp_fd 12 2 = some (11, 2, 11, 0, 0) from rfl) rfl hp (fun hkun => ?_)
  obtain ⟨un, hun, qun⟩ := zp_this hkun
  have htt : (zp_n u.2.1 a 0).toNat = tn := by rw [htn, Int.toNat_natCast]
  refine zp_load (pc := 0) hx hb (zd_X11_person (0, .iload_n 1, 1, 0, []) (List.mem_of_getElem? (i := 0) rfl)) rfl (j := 1) rfl ?_
  refine zp_const (pc := 1) hx hb (zd_X11_person (1, .iconst 0, 1, 0, []) (List.mem_of_getElem? (i := 1) rfl)) rfl rfl ?_
  refine zp_const (pc := 2) hx hb (zd_X11_person (2, .bipush 9, 2, 0, []) (List.mem_of_getElem? (i := 2) rfl)) rfl rfl ?_
  refine zp_call (pc := 4) (how := 1) (idx := 107) (mi := 15) (S := []) hx hb hE hw heff hrm (zX_iwn hW) rfl (j := 10) rfl rfl (by decide +kernel) (zd_X11_person (4, .invokestatic 107, 3, 0, []) (List.mem_of_getElem? (i := 3) rfl)) [p1, 0, 9] rfl ⟨zp_o0 (by omega) (by omega) (by omega) (by omega), zp_o0 (by omega) (by omega) (by omega) (by omega), zp_o0 (by omega) (by omega) (by omega) (by omega), trivial⟩ (Nat.le_of_ble_eq_true rfl) trivial (fun al hal rnw1 Pw1 Gw1 hextw1 hfrw1 hokw1 hcsw1 hpsiw1 => ?_)
  obtain rfl := List.mem_singleton.mp hal
  have hrw1 := zp_int (hokw1 _ rfl).1
  obtain ⟨hPew1, hGew1, htw1⟩ := hpsiw1
  have htw1 : rnw1 = 1 ↔ 0 ≤ p1 ∧ p1 ≤ 9 := htw1
  rw [hPew1, hGew1]
  refine zp_if (pc := 7) (tgt := 20) hx hb (zd_X11_person (7, .ifCond .eq 13, 3, 0, []) (List.mem_of_getElem? (i := 4) rfl)) rfl (fun (hc32 : rnw1 = 0) => ?_) (fun (hc32 : ¬ (rnw1 = 0)) => ?_)
  · refine zp_load (pc := 20) hx hb (zd_X11_person (20, .aload_n 0, 1, 0, []) (List.mem_of_getElem? (i := 10) rfl)) rfl (j := 0) rfl ?_
    refine zp_const (pc := 21) hx hb (zd_X11_person (21, .iconst (-1), 1, 0, []) (List.mem_of_getElem? (i := 11) rfl)) rfl rfl ?_
    refine zp_call (pc := 22) (how := 0) (idx := 111) (mi := 16) (S := []) hx hb hE hw heff hrm (zX_rfd hW) rfl (j := 11) rfl rfl (by decide +kernel) (zd_X11_person (22, .invokevirtual 111, 3, 0, []) (List.mem_of_getElem? (i := 12) rfl)) [(a : Int), (-1)] rfl ⟨zp_o2 hp, zp_o0 (by decide) (by decide) (by decide) (by decide), trivial⟩ (Nat.le_of_ble_eq_true rfl) trivial (fun al hal rnr2 Pr2 Gr2 hextr2 hfrr2 hokr2 hcsr2 hpsir2 => ?_)
    obtain rfl := List.mem_singleton.mp hal
    have hrr2 := zp_int (hokr2 _ rfl).1
    have yar2 := hextr2 _ _ hp
    have ytnr2 := hextr2 _ _ qtn
    have yunr2 := hextr2 _ _ qun
    have htr2 : rnr2 = (-1) := hpsir2
    have ez0 : Gr2 tn 1 = pe := ((zp_nf hfrr2 qtn rfl).trans hpe)
    refine zp_iret (pc := 25) (n := rnr2) hx hb hE hQ hU5 rfl (by decide) (zd_X11_person (25, .ireturn, 1, 0, []) (List.mem_of_getElem? (i := 13) rfl)) (j := 0) rfl (zp_o0 (by omega) (by omega) (by omega) (by omega)) ?_
    rw [hps]
    show (¬ (0 ≤ p1 ∧ p1 ≤ 9 ∧ 0 ≤ p2 ∧ p2 ≤ 7) → rnr2 = -1 ∧ Gr2 (zp_n u.2.1 a 0).toNat 1 = zp_n u.2.1 (zp_n u.2.1 a 0).toNat 1) ∧ ((0 ≤ p1 ∧ p1 ≤ 9 ∧ 0 ≤ p2 ∧ p2 ≤ 7) ∧ 6 ≤ zp_n u.2.1 (zp_n u.2.1 a 0).toNat 1 → rnr2 = -5 ∧ Gr2 (zp_n u.2.1 a 0).toNat 1 = zp_n u.2.1 (zp_n u.2.1 a 0).toNat 1) ∧ ((0 ≤ p1 ∧ p1 ≤ 9 ∧ 0 ≤ p2 ∧ p2 ≤ 7) ∧ zp_n u.2.1 (zp_n u.2.1 a 0).toNat 1 < 6 → rnr2 = zp_n u.2.1 (zp_n u.2.1 a 0).toNat 1 ∧ Gr2 (zp_n u.2.1 a 0).toNat 1 = zp_n u.2.1 (zp_n u.2.1 a 0).toNat 1 + 1)
    rw [htt]
    omega
  · refine zp_load (pc := 10) hx hb (zd_X11_person (10, .iload_n 2, 1, 0, []) (List.mem_of_getElem? (i := 5) rfl)) rfl (j := 2) rfl ?_
    refine zp_const (pc := 11) hx hb (zd_X11_person (11, .iconst 0, 1, 0, []) (List.mem_of_getElem? (i := 6) rfl)) rfl rfl ?_
    refine zp_const (pc := 12) hx hb (zd_X11_person (12, .bipush 7, 2, 0, []) (List.mem_of_getElem? (i := 7) rfl)) rfl rfl ?_
    refine zp_call (pc := 14) (how := 1) (idx := 107) (mi := 15) (S := []) hx hb hE hw heff hrm (zX_iwn hW) rfl (j := 10) rfl rfl (by decide +kernel) (zd_X11_person (14, .invokestatic 107, 3, 0, []) (List.mem_of_getElem? (i := 8) rfl)) [p2, 0, 7] rfl ⟨zp_o0 (by omega) (by omega) (by omega) (by omega), zp_o0 (by omega) (by omega) (by omega) (by omega), zp_o0 (by omega) (by omega) (by omega) (by omega), trivial⟩ (Nat.le_of_ble_eq_true rfl) trivial (fun al hal rnw3 Pw3 Gw3 hextw3 hfrw3 hokw3 hcsw3 hpsiw3 => ?_)
    obtain rfl := List.mem_singleton.mp hal
    have hrw3 := zp_int (hokw3 _ rfl).1
    obtain ⟨hPew3, hGew3, htw3⟩ := hpsiw3
    have htw3 : rnw3 = 1 ↔ 0 ≤ p2 ∧ p2 ≤ 7 := htw3
    rw [hPew3, hGew3]
    refine zp_if (pc := 17) (tgt := 26) hx hb (zd_X11_person (17, .ifCond .ne 9, 3, 0, []) (List.mem_of_getElem? (i := 9) rfl)) rfl (fun (hc33 : ¬ rnw3 = 0) => ?_) (fun (hc33 : ¬ (¬ rnw3 = 0)) => ?_)
    · refine zp_load (pc := 26) hx hb (zd_X11_person (26, .aload_n 0, 1, 0, []) (List.mem_of_getElem? (i := 14) rfl)) rfl (j := 0) rfl ?_
      refine zp_getf (n := (tn : Int)) (pc := 27) hx hb hE hw (zd_X11_person (27, .getfield 10, 3, 0, []) (List.mem_of_getElem? (i := 15) rfl)) (j := 50) rfl rfl rfl hp htn ?_
      refine zp_getf (n := pe) (pc := 30) hx hb hE hw (zd_X11_person (30, .getfield 121, 3, 0, []) (List.mem_of_getElem? (i := 16) rfl)) (j := 10) rfl rfl rfl qtn hpe ?_
      refine zp_const (pc := 33) hx hb (zd_X11_person (33, .bipush 6, 2, 0, []) (List.mem_of_getElem? (i := 17) rfl)) rfl rfl ?_
      refine zp_icmp (pc := 35) (tgt := 45) hx hb (zd_X11_person (35, .if_icmp .lt 10, 3, 0, []) (List.mem_of_getElem? (i := 18) rfl)) rfl (fun (hc34 : pe < 6) => ?_) (fun (hc34 : ¬ (pe < 6)) => ?_)
      · refine zp_load (pc := 45) hx hb (zd_X11_person (45, .aload_n 0, 1, 0, []) (List.mem_of_getElem? (i := 23) rfl)) rfl (j := 0) rfl ?_
        refine zp_getf (n := (un : Int)) (pc := 46) hx hb hE hw (zd_X11_person (46, .getfield 23, 3, 0, []) (List.mem_of_getElem? (i := 24) rfl)) (j := 52) rfl rfl rfl hp hun ?_
        refine zp_call (pc := 49) (how := 0) (idx := 124) (mi := 19) (S := []) hx hb hE hw heff hrm (zp_plain (zq_16 hW)) rfl (j := 13) rfl rfl (by decide +kernel) (zd_X11_person (49, .invokevirtual 124, 3, 0, []) (List.mem_of_getElem? (i := 25) rfl)) [(un : Int)] rfl ⟨zp_o2 qun, trivial⟩ (Nat.le_of_ble_eq_true rfl) trivial (fun al hal rnu4 Pu4 Gu4 hextu4 hfru4 hoku4 hcsu4 hpsiu4 => ?_)
        obtain rfl := List.mem_singleton.mp hal
        have yau4 := hextu4 _ _ hp
        have ytnu4 := hextu4 _ _ qtn
        have yunu4 := hextu4 _ _ qun
        refine zp_load (pc := 52) hx hb (zd_X11_person (52, .aload_n 0, 1, 0, []) (List.mem_of_getElem? (i := 26) rfl)) rfl (j := 0) rfl ?_
        refine zp_load (pc := 53) hx hb (zd_X11_person (53, .aload_n 0, 1, 0, []) (List.mem_of_getElem? (i := 27) rfl)) rfl (j := 0) rfl ?_
        refine zp_getf (n := (tn : Int)) (pc := 54) hx hb hE hw (zd_X11_person (54, .getfield 10, 3, 0, []) (List.mem_of_getElem? (i := 28) rfl)) (j := 50) rfl rfl rfl yau4 ((zp_nf hfru4 hp rfl).trans htn) ?_
        refine zp_load (pc := 57) hx hb (zd_X11_person (57, .iload_n 1, 1, 0, []) (List.mem_of_getElem? (i := 29) rfl)) rfl (j := 1) rfl ?_
        refine zp_load (pc := 58) hx hb (zd_X11_person (58, .iload_n 2, 1, 0, []) (List.mem_of_getElem? (i := 30) rfl)) rfl (j := 2) rfl ?_
        have qd5 : Gu4 tn 1 = pe := ((zp_nf hfru4 qtn rfl).trans hpe)
        refine zp_call (pc := 59) (how := 0) (idx := 127) (mi := 20) (S := [(2, (a : Int))]) hx hb hE hw heff hrm (zX_apn hW) rfl (j := 14) rfl rfl (by decide +kernel) (zd_X11_person (59, .invokevirtual 127, 3, 0, []) (List.mem_of_getElem? (i := 31) rfl)) [(tn : Int), p1, p2] rfl ⟨zp_o2 ytnu4, zp_o0 (by omega) (by omega) (by omega) (by omega), zp_o0 (by omega) (by omega) (by omega) (by omega), trivial⟩ (Nat.le_of_ble_eq_true rfl) (show Gu4 tn 1 < 6 by omega) (fun al hal rnd5 Pd5 Gd5 hextd5 hfrd5 hokd5 hcsd5 hpsid5 => ?_)
        obtain rfl := List.mem_singleton.mp hal
        have hrd5 := zp_int (hokd5 _ rfl).1
        have yad5 := hextd5 _ _ yau4
        have ytnd5 := hextd5 _ _ ytnu4
        have yund5 := hextd5 _ _ yunu4
        obtain ⟨hP9d5, htd5⟩ := hpsid5
        have htd5 : rnd5 = Gu4 tn 1 ∧ Gd5 tn 1 = Gu4 tn 1 + 1 := htd5
        obtain ⟨hud5, hvd5⟩ := htd5
        have hzd5 : Gd5 tn 1 = pe + 1 := by omega
        have hzbd5 : 0 ≤ pe := by omega
        refine zp_call (pc := 62) (how := 0) (idx := 118) (mi := 17) (S := []) hx hb hE hw heff hrm (zX_awd hW) rfl (j := 12) rfl rfl (by decide +kernel) (zd_X11_person (62, .invokevirtual 118, 3, 0, []) (List.mem_of_getElem? (i := 32) rfl)) [(a : Int), rnd5] rfl ⟨zp_o2 yad5, zp_o0 (by omega) (by omega) (by omega) (by omega), trivial⟩ (Nat.le_of_ble_eq_true rfl) trivial (fun al hal rns6 Ps6 Gs6 hexts6 hfrs6 hoks6 hcss6 hpsis6 => ?_)
        obtain rfl := List.mem_singleton.mp hal
        have hrs6 := zp_int (hoks6 _ rfl).1
        have yas6 := hexts6 _ _ yad5
        have ytns6 := hexts6 _ _ ytnd5
        have yuns6 := hexts6 _ _ yund5
        have hts6 : rns6 = rnd5 := hpsis6
        have ez0 : Gs6 tn 1 = (pe + 1) := ((zp_nf hfrs6 ytnd5 rfl).trans hzd5)
        refine zp_iret (pc := 65) (n := rns6) hx hb hE hQ hU5 rfl (by decide) (zd_X11_person (65, .ireturn, 1, 0, []) (List.mem_of_getElem? (i := 33) rfl)) (j := 0) rfl (zp_o0 (by omega) (by omega) (by omega) (by omega)) ?_
        rw [hps]
        show (¬ (0 ≤ p1 ∧ p1 ≤ 9 ∧ 0 ≤ p2 ∧ p2 ≤ 7) → rns6 = -1 ∧ Gs6 (zp_n u.2.1 a 0).toNat 1 = zp_n u.2.1 (zp_n u.2.1 a 0).toNat 1) ∧ ((0 ≤ p1 ∧ p1 ≤ 9 ∧ 0 ≤ p2 ∧ p2 ≤ 7) ∧ 6 ≤ zp_n u.2.1 (zp_n u.2.1 a 0).toNat 1 → rns6 = -5 ∧ Gs6 (zp_n u.2.1 a 0).toNat 1 = zp_n u.2.1 (zp_n u.2.1 a 0).toNat 1) ∧ ((0 ≤ p1 ∧ p1 ≤ 9 ∧ 0 ≤ p2 ∧ p2 ≤ 7) ∧ zp_n u.2.1 (zp_n u.2.1 a 0).toNat 1 < 6 → rns6 = zp_n u.2.1 (zp_n u.2.1 a 0).toNat 1 ∧ Gs6 (zp_n u.2.1 a 0).toNat 1 = zp_n u.2.1 (zp_n u.2.1 a 0).toNat 1 + 1)
        rw [htt]
        omega
      · refine zp_load (pc := 38) hx hb (zd_X11_person (38, .aload_n 0, 1, 0, []) (List.mem_of_getElem? (i := 19) rfl)) rfl (j := 0) rfl ?_
        refine zp_const (pc := 39) hx hb (zd_X11_person (39, .bipush (-5), 2, 0, []) (List.mem_of_getElem? (i := 20) rfl)) rfl rfl ?_
        refine zp_call (pc := 41) (how := 0) (idx := 111) (mi := 16) (S := []) hx hb hE hw heff hrm (zX_rfd hW) rfl (j := 11) rfl rfl (by decide +kernel) (zd_X11_person (41, .invokevirtual 111, 3, 0, []) (List.mem_of_getElem? (i := 21) rfl)) [(a : Int), (-5)] rfl ⟨zp_o2 hp, zp_o0 (by decide) (by decide) (by decide) (by decide), trivial⟩ (Nat.le_of_ble_eq_true rfl) trivial (fun al hal rnr7 Pr7 Gr7 hextr7 hfrr7 hokr7 hcsr7 hpsir7 => ?_)
        obtain rfl := List.mem_singleton.mp hal
        have hrr7 := zp_int (hokr7 _ rfl).1
        have yar7 := hextr7 _ _ hp
        have ytnr7 := hextr7 _ _ qtn
        have yunr7 := hextr7 _ _ qun
        have htr7 : rnr7 = (-5) := hpsir7
        have ez0 : Gr7 tn 1 = pe := ((zp_nf hfrr7 qtn rfl).trans hpe)
        refine zp_iret (pc := 44) (n := rnr7) hx hb hE hQ hU5 rfl (by decide) (zd_X11_person (44, .ireturn, 1, 0, []) (List.mem_of_getElem? (i := 22) rfl)) (j := 0) rfl (zp_o0 (by omega) (by omega) (by omega) (by omega)) ?_
        rw [hps]
        show (¬ (0 ≤ p1 ∧ p1 ≤ 9 ∧ 0 ≤ p2 ∧ p2 ≤ 7) → rnr7 = -1 ∧ Gr7 (zp_n u.2.1 a 0).toNat 1 = zp_n u.2.1 (zp_n u.2.1 a 0).toNat 1) ∧ ((0 ≤ p1 ∧ p1 ≤ 9 ∧ 0 ≤ p2 ∧ p2 ≤ 7) ∧ 6 ≤ zp_n u.2.1 (zp_n u.2.1 a 0).toNat 1 → rnr7 = -5 ∧ Gr7 (zp_n u.2.1 a 0).toNat 1 = zp_n u.2.1 (zp_n u.2.1 a 0).toNat 1) ∧ ((0 ≤ p1 ∧ p1 ≤ 9 ∧ 0 ≤ p2 ∧ p2 ≤ 7) ∧ zp_n u.2.1 (zp_n u.2.1 a 0).toNat 1 < 6 → rnr7 = zp_n u.2.1 (zp_n u.2.1 a 0).toNat 1 ∧ Gr7 (zp_n u.2.1 a 0).toNat 1 = zp_n u.2.1 (zp_n u.2.1 a 0).toNat 1 + 1)
        rw [htt]
        omega
    · refine zp_load (pc := 20) hx hb (zd_X11_person (20, .aload_n 0, 1, 0, []) (List.mem_of_getElem? (i := 10) rfl)) rfl (j := 0) rfl ?_
      refine zp_const (pc := 21) hx hb (zd_X11_person (21, .iconst (-1), 1, 0, []) (List.mem_of_getElem? (i := 11) rfl)) rfl rfl ?_
      refine zp_call (pc := 22) (how := 0) (idx := 111) (mi := 16) (S := []) hx hb hE hw heff hrm (zX_rfd hW) rfl (j := 11) rfl rfl (by decide +kernel) (zd_X11_person (22, .invokevirtual 111, 3, 0, []) (List.mem_of_getElem? (i := 12) rfl)) [(a : Int), (-1)] rfl ⟨zp_o2 hp, zp_o0 (by decide) (by decide) (by decide) (by decide), trivial⟩ (Nat.le_of_ble_eq_true rfl) trivial (fun al hal rnr8 Pr8 Gr8 hextr8 hfrr8 hokr8 hcsr8 hpsir8 => ?_)
      obtain rfl := List.mem_singleton.mp hal
      have hrr8 := zp_int (hokr8 _ rfl).1
      have yar8 := hextr8 _ _ hp
      have ytnr8 := hextr8 _ _ qtn
      have yunr8 := hextr8 _ _ qun
      have htr8 : rnr8 = (-1) := hpsir8
      have ez0 : Gr8 tn 1 = pe := ((zp_nf hfrr8 qtn rfl).trans hpe)
      refine zp_iret (pc := 25) (n := rnr8) hx hb hE hQ hU5 rfl (by decide) (zd_X11_person (25, .ireturn, 1, 0, []) (List.mem_of_getElem? (i := 13) rfl)) (j := 0) rfl (zp_o0 (by omega) (by omega) (by omega) (by omega)) ?_
      rw [hps]
      show (¬ (0 ≤ p1 ∧ p1 ≤ 9 ∧ 0 ≤ p2 ∧ p2 ≤ 7) → rnr8 = -1 ∧ Gr8 (zp_n u.2.1 a 0).toNat 1 = zp_n u.2.1 (zp_n u.2.1 a 0).toNat 1) ∧ ((0 ≤ p1 ∧ p1 ≤ 9 ∧ 0 ≤ p2 ∧ p2 ≤ 7) ∧ 6 ≤ zp_n u.2.1 (zp_n u.2.1 a 0).toNat 1 → rnr8 = -5 ∧ Gr8 (zp_n u.2.1 a 0).toNat 1 = zp_n u.2.1 (zp_n u.2.1 a 0).toNat 1) ∧ ((0 ≤ p1 ∧ p1 ≤ 9 ∧ 0 ≤ p2 ∧ p2 ≤ 7) ∧ zp_n u.2.1 (zp_n u.2.1 a 0).toNat 1 < 6 → rnr8 = zp_n u.2.1 (zp_n u.2.1 a 0).toNat 1 ∧ Gr8 (zp_n u.2.1 a 0).toNat 1 = zp_n u.2.1 (zp_n u.2.1 a 0).toNat 1 + 1)
      rw [htt]
      omega
def zK_wks : zk_K := (zt_mn 27, prog_1_method_6_code, 6, (Option.some Jvm.ClassFile.FieldType.int), 1, 11, [(2, 12, 0, 0), (0, 0, (-2147483648), 2147483647), (0, 0, (-2147483648), 2147483647), (0, 0, (-2147483648), 2147483647), (0, 0, (-2147483648), 2147483647), (0, 0, (-2147483648), 2147483647)], [(some (0, 0, (-5), 9), [])], [(44, 1001, 0), (45, 1001, 0), (46, 1001, 0), (47, 1001, 0), (48, 1001, 0), (19, 1001, 0), (10, 3, 0), (12, 18, 0), (57, 1002, 0), (11, 3, 0)], (1, 40, 0, 0))
def zψ_wks : (Nat → Option Nat) → (Nat → Nat → Int) → List Int → (Nat → Option Nat) → (Nat → Nat → Int) → Int → Prop := fun P G ps P' G' rn => (¬ (1 ≤ ps.getD 2 0 ∧ ps.getD 2 0 ≤ 600 ∧ 0 ≤ ps.getD 3 0 ∧ ps.getD 3 0 ≤ 23 ∧ 1 ≤ ps.getD 4 0 ∧ ps.getD 4 0 ≤ 99) → rn = -1 ∧ G' (G (zp_0 ps) 0).toNat 3 = G (G (zp_0 ps) 0).toNat 3) ∧ ((1 ≤ ps.getD 2 0 ∧ ps.getD 2 0 ≤ 600 ∧ 0 ≤ ps.getD 3 0 ∧ ps.getD 3 0 ≤ 23 ∧ 1 ≤ ps.getD 4 0 ∧ ps.getD 4 0 ≤ 99) ∧ ¬ (0 ≤ ps.getD 1 0 ∧ ps.getD 1 0 < G (G (zp_0 ps) 0).toNat 1 ∧ (ps.getD 5 0 = -1 ∨ (0 ≤ ps.getD 5 0 ∧ ps.getD 5 0 < G (G (zp_0 ps) 0).toNat 3))) → rn = -2 ∧ G' (G (zp_0 ps) 0).toNat 3 = G (G (zp_0 ps) 0).toNat 3) ∧ ((1 ≤ ps.getD 2 0 ∧ ps.getD 2 0 ≤ 600 ∧ 0 ≤ ps.getD 3 0 ∧ ps.getD 3 0 ≤ 23 ∧ 1 ≤ ps.getD 4 0 ∧ ps.getD 4 0 ≤ 99) ∧ (0 ≤ ps.getD 1 0 ∧ ps.getD 1 0 < G (G (zp_0 ps) 0).toNat 1 ∧ (ps.getD 5 0 = -1 ∨ (0 ≤ ps.getD 5 0 ∧ ps.getD 5 0 < G (G (zp_0 ps) 0).toNat 3))) ∧ 10 ≤ G (G (zp_0 ps) 0).toNat 3 → rn = -5 ∧ G' (G (zp_0 ps) 0).toNat 3 = G (G (zp_0 ps) 0).toNat 3) ∧ ((1 ≤ ps.getD 2 0 ∧ ps.getD 2 0 ≤ 600 ∧ 0 ≤ ps.getD 3 0 ∧ ps.getD 3 0 ≤ 23 ∧ 1 ≤ ps.getD 4 0 ∧ ps.getD 4 0 ≤ 99) ∧ (0 ≤ ps.getD 1 0 ∧ ps.getD 1 0 < G (G (zp_0 ps) 0).toNat 1 ∧ (ps.getD 5 0 = -1 ∨ (0 ≤ ps.getD 5 0 ∧ ps.getD 5 0 < G (G (zp_0 ps) 0).toNat 3))) ∧ G (G (zp_0 ps) 0).toNat 3 < 10 → rn = G (G (zp_0 ps) 0).toNat 3 ∧ G' (G (zp_0 ps) 0).toNat 3 = G (G (zp_0 ps) 0).toNat 3 + 1)
theorem zX_wks {l : Launch} {w : zk_W} (hW : zh_W w) : zk_metX l w zt_dv zt_TB zK_wks (zp_A zp_tA) (zp_B zψ_wks) ∧ zk_cok w zt_TB zK_wks := by
  refine zp_methX (cn := "WoundTown") zp_lkallW hW (pl := 655) rfl (by decide +kernel) (fun p e R s m args below meth c Q u hx hb hE hQ hU5 heff hnL hok hφ => ?_)
  have hw := hW.1
  obtain ⟨p0, p1, p2, p3, p4, p5, hps, k0, k1, k2, k3, k4, k5⟩ := zp_ps6 hok
  obtain ⟨a, rfl, hp⟩ := zp_this k0
  have hrm : zk_Kr (zk_ev (zt_types, zp_lkW, zt_dv, [], [], zp_lcW, zK_wks)) = zk_Kr zK_wks := rfl
  rw [hps] at hφ ⊢
  have hi1 := zp_int k1
  have hi2 := zp_int k2
  have hi3 := zp_int k3
  have hi4 := zp_int k4
  have hi5 := zp_int k5
  show zp_J p l e R s m args below meth c Q w u [] 0 [(0, 2, (a : Int)), (1, 0, p1), (2, 0, p2), (3, 0, p3), (4, 0, p4), (5, 0, p5)] [] u.1 (zp_n u.2.1)
  refine zp_kn (k := 0) (a := a) hw (show zp_fd 12 0 = some (11, 2, 10, 0, 0) from rfl) rfl hp (fun hktn => ?_)
  obtain ⟨tn, htn, qtn⟩ := zp_this hktn
  refine zp_kn (k := 1) (a := tn) hw (show zp_fd 10 1 = some (9, 0, 0, 0, 6) from rfl) rfl qtn (fun hkpe => ?_)
  obtain ⟨pe, hpe⟩ : ∃ z0 : Int, (zp_n u.2.1) tn 1 = z0 := ⟨_, rfl⟩
  have hpeb := zp_int hkpe
  rw [hpe] at hpeb
  refine zp_kn (k := 3) (a := tn) hw (show zp_fd 10 3 = some (9, 0, 0, 0, 10) from rfl) rfl qtn (fun hkwk => ?_)
  obtain ⟨wk, hwk⟩ : ∃ z0 : Int, (zp_n u.2.1) tn 3 = z0 := ⟨_, rfl⟩
  have hwkb := zp_int hkwk
  rw [hwk] at hwkb
  refine zp_kn (k := 2) (a := a) hw (show zp_fd 12 2 = some (11, 2, 11, 0, 0) from rfl) rfl hp (fun hkun => ?_)
  obtain ⟨un, hun, qun⟩ := zp_this hkun
  have htt : (zp_n u.2.1 a 0).toNat = tn := by rw [htn, Int.toNat_natCast]
  refine zp_load (pc := 0) hx hb (zd_X11_work (0, .iload_n 2, 1, 0, []) (List.mem_of_getElem? (i := 0) rfl)) rfl (j := 2) rfl ?_
  refine zp_const (pc := 1) hx hb (zd_X11_work (1, .iconst 1, 1, 0, []) (List.mem_of_getElem? (i := 1) rfl)) rfl rfl ?_
  refine zp_const (pc := 2) hx hb (zd_X11_work (2, .sipush 600, 3, 0, []) (List.mem_of_getElem? (i := 2) rfl)) rfl rfl ?_
  refine zp_call (pc := 5) (how := 1) (idx := 107) (mi := 15) (S := []) hx hb hE hw heff hrm (zX_iwn hW) rfl (j := 10) rfl rfl (by decide +kernel) (zd_X11_work (5, .invokestatic 107, 3, 0, []) (List.mem_of_getElem? (i := 3) rfl)) [p2, 1, 600] rfl ⟨zp_o0 (by omega) (by omega) (by omega) (by omega), zp_o0 (by omega) (by omega) (by omega) (by omega), zp_o0 (by omega) (by omega) (by omega) (by omega), trivial⟩ (Nat.le_of_ble_eq_true rfl) trivial (fun al hal rnw9 Pw9 Gw9 hextw9 hfrw9 hokw9 hcsw9 hpsiw9 => ?_)
  obtain rfl := List.mem_singleton.mp hal
  have hrw9 := zp_int (hokw9 _ rfl).1
  obtain ⟨hPew9, hGew9, htw9⟩ := hpsiw9
  have htw9 : rnw9 = 1 ↔ 1 ≤ p2 ∧ p2 ≤ 600 := htw9
  rw [hPew9, hGew9]
  refine zp_if (pc := 8) (tgt := 32) hx hb (zd_X11_work (8, .ifCond .eq 24, 3, 0, []) (List.mem_of_getElem? (i := 4) rfl)) rfl (fun (hc35 : rnw9 = 0) => ?_) (fun (hc35 : ¬ (rnw9 = 0)) => ?_)
  · refine zp_load (pc := 32) hx hb (zd_X11_work (32, .aload_n 0, 1, 0, []) (List.mem_of_getElem? (i := 15) rfl)) rfl (j := 0) rfl ?_
    refine zp_const (pc := 33) hx hb (zd_X11_work (33, .iconst (-1), 1, 0, []) (List.mem_of_getElem? (i := 16) rfl)) rfl rfl ?_
    refine zp_call (pc := 34) (how := 0) (idx := 111) (mi := 16) (S := []) hx hb hE hw heff hrm (zX_rfd hW) rfl (j := 11) rfl rfl (by decide +kernel) (zd_X11_work (34, .invokevirtual 111, 3, 0, []) (List.mem_of_getElem? (i := 17) rfl)) [(a : Int), (-1)] rfl ⟨zp_o2 hp, zp_o0 (by decide) (by decide) (by decide) (by decide), trivial⟩ (Nat.le_of_ble_eq_true rfl) trivial (fun al hal rnr10 Pr10 Gr10 hextr10 hfrr10 hokr10 hcsr10 hpsir10 => ?_)
    obtain rfl := List.mem_singleton.mp hal
    have hrr10 := zp_int (hokr10 _ rfl).1
    have yar10 := hextr10 _ _ hp
    have ytnr10 := hextr10 _ _ qtn
    have yunr10 := hextr10 _ _ qun
    have htr10 : rnr10 = (-1) := hpsir10
    have ez0 : Gr10 tn 3 = wk := ((zp_nf hfrr10 qtn rfl).trans hwk)
    refine zp_iret (pc := 37) (n := rnr10) hx hb hE hQ hU5 rfl (by decide) (zd_X11_work (37, .ireturn, 1, 0, []) (List.mem_of_getElem? (i := 18) rfl)) (j := 0) rfl (zp_o0 (by omega) (by omega) (by omega) (by omega)) ?_
    rw [hps]
    show (¬ (1 ≤ p2 ∧ p2 ≤ 600 ∧ 0 ≤ p3 ∧ p3 ≤ 23 ∧ 1 ≤ p4 ∧ p4 ≤ 99) → rnr10 = -1 ∧ Gr10 (zp_n u.2.1 a 0).toNat 3 = zp_n u.2.1 (zp_n u.2.1 a 0).toNat 3) ∧ ((1 ≤ p2 ∧ p2 ≤ 600 ∧ 0 ≤ p3 ∧ p3 ≤ 23 ∧ 1 ≤ p4 ∧ p4 ≤ 99) ∧ ¬ (0 ≤ p1 ∧ p1 < zp_n u.2.1 (zp_n u.2.1 a 0).toNat 1 ∧ (p5 = -1 ∨ (0 ≤ p5 ∧ p5 < zp_n u.2.1 (zp_n u.2.1 a 0).toNat 3))) → rnr10 = -2 ∧ Gr10 (zp_n u.2.1 a 0).toNat 3 = zp_n u.2.1 (zp_n u.2.1 a 0).toNat 3) ∧ ((1 ≤ p2 ∧ p2 ≤ 600 ∧ 0 ≤ p3 ∧ p3 ≤ 23 ∧ 1 ≤ p4 ∧ p4 ≤ 99) ∧ (0 ≤ p1 ∧ p1 < zp_n u.2.1 (zp_n u.2.1 a 0).toNat 1 ∧ (p5 = -1 ∨ (0 ≤ p5 ∧ p5 < zp_n u.2.1 (zp_n u.2.1 a 0).toNat 3))) ∧ 10 ≤ zp_n u.2.1 (zp_n u.2.1 a 0).toNat 3 → rnr10 = -5 ∧ Gr10 (zp_n u.2.1 a 0).toNat 3 = zp_n u.2.1 (zp_n u.2.1 a 0).toNat 3) ∧ ((1 ≤ p2 ∧ p2 ≤ 600 ∧ 0 ≤ p3 ∧ p3 ≤ 23 ∧ 1 ≤ p4 ∧ p4 ≤ 99) ∧ (0 ≤ p1 ∧ p1 < zp_n u.2.1 (zp_n u.2.1 a 0).toNat 1 ∧ (p5 = -1 ∨ (0 ≤ p5 ∧ p5 < zp_n u.2.1 (zp_n u.2.1 a 0).toNat 3))) ∧ zp_n u.2.1 (zp_n u.2.1 a 0).toNat 3 < 10 → rnr10 = zp_n u.2.1 (zp_n u.2.1 a 0).toNat 3 ∧ Gr10 (zp_n u.2.1 a 0).toNat 3 = zp_n u.2.1 (zp_n u.2.1 a 0).toNat 3 + 1)
    rw [htt]
    omega
  · refine zp_load (pc := 11) hx hb (zd_X11_work (11, .iload_n 3, 1, 0, []) (List.mem_of_getElem? (i := 5) rfl)) rfl (j := 3) rfl ?_
    refine zp_const (pc := 12) hx hb (zd_X11_work (12, .iconst 0, 1, 0, []) (List.mem_of_getElem? (i := 6) rfl)) rfl rfl ?_
    refine zp_const (pc := 13) hx hb (zd_X11_work (13, .bipush 23, 2, 0, []) (List.mem_of_getElem? (i := 7) rfl)) rfl rfl ?_
    refine zp_call (pc := 15) (how := 1) (idx := 107) (mi := 15) (S := []) hx hb hE hw heff hrm (zX_iwn hW) rfl (j := 10) rfl rfl (by decide +kernel) (zd_X11_work (15, .invokestatic 107, 3, 0, []) (List.mem_of_getElem? (i := 8) rfl)) [p3, 0, 23] rfl ⟨zp_o0 (by omega) (by omega) (by omega) (by omega), zp_o0 (by omega) (by omega) (by omega) (by omega), zp_o0 (by omega) (by omega) (by omega) (by omega), trivial⟩ (Nat.le_of_ble_eq_true rfl) trivial (fun al hal rnw11 Pw11 Gw11 hextw11 hfrw11 hokw11 hcsw11 hpsiw11 => ?_)
    obtain rfl := List.mem_singleton.mp hal
    have hrw11 := zp_int (hokw11 _ rfl).1
    obtain ⟨hPew11, hGew11, htw11⟩ := hpsiw11
    have htw11 : rnw11 = 1 ↔ 0 ≤ p3 ∧ p3 ≤ 23 := htw11
    rw [hPew11, hGew11]
    refine zp_if (pc := 18) (tgt := 32) hx hb (zd_X11_work (18, .ifCond .eq 14, 3, 0, []) (List.mem_of_getElem? (i := 9) rfl)) rfl (fun (hc36 : rnw11 = 0) => ?_) (fun (hc36 : ¬ (rnw11 = 0)) => ?_)
    · refine zp_load (pc := 32) hx hb (zd_X11_work (32, .aload_n 0, 1, 0, []) (List.mem_of_getElem? (i := 15) rfl)) rfl (j := 0) rfl ?_
      refine zp_const (pc := 33) hx hb (zd_X11_work (33, .iconst (-1), 1, 0, []) (List.mem_of_getElem? (i := 16) rfl)) rfl rfl ?_
      refine zp_call (pc := 34) (how := 0) (idx := 111) (mi := 16) (S := []) hx hb hE hw heff hrm (zX_rfd hW) rfl (j := 11) rfl rfl (by decide +kernel) (zd_X11_work (34, .invokevirtual 111, 3, 0, []) (List.mem_of_getElem? (i := 17) rfl)) [(a : Int), (-1)] rfl ⟨zp_o2 hp, zp_o0 (by decide) (by decide) (by decide) (by decide), trivial⟩ (Nat.le_of_ble_eq_true rfl) trivial (fun al hal rnr12 Pr12 Gr12 hextr12 hfrr12 hokr12 hcsr12 hpsir12 => ?_)
      obtain rfl := List.mem_singleton.mp hal
      have hrr12 := zp_int (hokr12 _ rfl).1
      have yar12 := hextr12 _ _ hp
      have ytnr12 := hextr12 _ _ qtn
      have yunr12 := hextr12 _ _ qun
      have htr12 : rnr12 = (-1) := hpsir12
      have ez0 : Gr12 tn 3 = wk := ((zp_nf hfrr12 qtn rfl).trans hwk)
      refine zp_iret (pc := 37) (n := rnr12) hx hb hE hQ hU5 rfl (by decide) (zd_X11_work (37, .ireturn, 1, 0, []) (List.mem_of_getElem? (i := 18) rfl)) (j := 0) rfl (zp_o0 (by omega) (by omega) (by omega) (by omega)) ?_
      rw [hps]
      show (¬ (1 ≤ p2 ∧ p2 ≤ 600 ∧ 0 ≤ p3 ∧ p3 ≤ 23 ∧ 1 ≤ p4 ∧ p4 ≤ 99) → rnr12 = -1 ∧ Gr12 (zp_n u.2.1 a 0).toNat 3 = zp_n u.2.1 (zp_n u.2.1 a 0).toNat 3) ∧ ((1 ≤ p2 ∧ p2 ≤ 600 ∧ 0 ≤ p3 ∧ p3 ≤ 23 ∧ 1 ≤ p4 ∧ p4 ≤ 99) ∧ ¬ (0 ≤ p1 ∧ p1 < zp_n u.2.1 (zp_n u.2.1 a 0).toNat 1 ∧ (p5 = -1 ∨ (0 ≤ p5 ∧ p5 < zp_n u.2.1 (zp_n u.2.1 a 0).toNat 3))) → rnr12 = -2 ∧ Gr12 (zp_n u.2.1 a 0).toNat 3 = zp_n u.2.1 (zp_n u.2.1 a 0).toNat 3) ∧ ((1 ≤ p2 ∧ p2 ≤ 600 ∧ 0 ≤ p3 ∧ p3 ≤ 23 ∧ 1 ≤ p4 ∧ p4 ≤ 99) ∧ (0 ≤ p1 ∧ p1 < zp_n u.2.1 (zp_n u.2.1 a 0).toNat 1 ∧ (p5 = -1 ∨ (0 ≤ p5 ∧ p5 < zp_n u.2.1 (zp_n u.2.1 a 0).toNat 3))) ∧ 10 ≤ zp_n u.2.1 (zp_n u.2.1 a 0).toNat 3 → rnr12 = -5 ∧ Gr12 (zp_n u.2.1 a 0).toNat 3 = zp_n u.2.1 (zp_n u.2.1 a 0).toNat 3) ∧ ((1 ≤ p2 ∧ p2 ≤ 600 ∧ 0 ≤ p3 ∧ p3 ≤ 23 ∧ 1 ≤ p4 ∧ p4 ≤ 99) ∧ (0 ≤ p1 ∧ p1 < zp_n u.2.1 (zp_n u.2.1 a 0).toNat 1 ∧ (p5 = -1 ∨ (0 ≤ p5 ∧ p5 < zp_n u.2.1 (zp_n u.2.1 a 0).toNat 3))) ∧ zp_n u.2.1 (zp_n u.2.1 a 0).toNat 3 < 10 → rnr12 = zp_n u.2.1 (zp_n u.2.1 a 0).toNat 3 ∧ Gr12 (zp_n u.2.1 a 0).toNat 3 = zp_n u.2.1 (zp_n u.2.1 a 0).toNat 3 + 1)
      rw [htt]
      omega
    · refine zp_load (pc := 21) hx hb (zd_X11_work (21, .iload 4, 2, 0, []) (List.mem_of_getElem? (i := 10) rfl)) rfl (j := 4) rfl ?_
      refine zp_const (pc := 23) hx hb (zd_X11_work (23, .iconst 1, 1, 0, []) (List.mem_of_getElem? (i := 11) rfl)) rfl rfl ?_
      refine zp_const (pc := 24) hx hb (zd_X11_work (24, .bipush 99, 2, 0, []) (List.mem_of_getElem? (i := 12) rfl)) rfl rfl ?_
      refine zp_call (pc := 26) (how := 1) (idx := 107) (mi := 15) (S := []) hx hb hE hw heff hrm (zX_iwn hW) rfl (j := 10) rfl rfl (by decide +kernel) (zd_X11_work (26, .invokestatic 107, 3, 0, []) (List.mem_of_getElem? (i := 13) rfl)) [p4, 1, 99] rfl ⟨zp_o0 (by omega) (by omega) (by omega) (by omega), zp_o0 (by omega) (by omega) (by omega) (by omega), zp_o0 (by omega) (by omega) (by omega) (by omega), trivial⟩ (Nat.le_of_ble_eq_true rfl) trivial (fun al hal rnw13 Pw13 Gw13 hextw13 hfrw13 hokw13 hcsw13 hpsiw13 => ?_)
      obtain rfl := List.mem_singleton.mp hal
      have hrw13 := zp_int (hokw13 _ rfl).1
      obtain ⟨hPew13, hGew13, htw13⟩ := hpsiw13
      have htw13 : rnw13 = 1 ↔ 1 ≤ p4 ∧ p4 ≤ 99 := htw13
      rw [hPew13, hGew13]
      refine zp_if (pc := 29) (tgt := 38) hx hb (zd_X11_work (29, .ifCond .ne 9, 3, 0, []) (List.mem_of_getElem? (i := 14) rfl)) rfl (fun (hc37 : ¬ rnw13 = 0) => ?_) (fun (hc37 : ¬ (¬ rnw13 = 0)) => ?_)
      · refine zp_load (pc := 38) hx hb (zd_X11_work (38, .aload_n 0, 1, 0, []) (List.mem_of_getElem? (i := 19) rfl)) rfl (j := 0) rfl ?_
        refine zp_getf (n := (tn : Int)) (pc := 39) hx hb hE hw (zd_X11_work (39, .getfield 10, 3, 0, []) (List.mem_of_getElem? (i := 20) rfl)) (j := 50) rfl rfl rfl hp htn ?_
        refine zp_load (pc := 42) hx hb (zd_X11_work (42, .iload_n 1, 1, 0, []) (List.mem_of_getElem? (i := 21) rfl)) rfl (j := 1) rfl ?_
        have hvh14 : (zp_n u.2.1) tn 1 = pe := hpe
        refine zp_call (pc := 43) (how := 0) (idx := 131) (mi := 22) (S := []) hx hb hE hw heff hrm (zX_hpn hW) rfl (j := 15) rfl rfl (by decide +kernel) (zd_X11_work (43, .invokevirtual 131, 3, 0, []) (List.mem_of_getElem? (i := 22) rfl)) [(tn : Int), p1] rfl ⟨zp_o2 qtn, zp_o0 (by omega) (by omega) (by omega) (by omega), trivial⟩ (Nat.le_of_ble_eq_true rfl) trivial (fun al hal rnh14 Ph14 Gh14 hexth14 hfrh14 hokh14 hcsh14 hpsih14 => ?_)
        obtain rfl := List.mem_singleton.mp hal
        have hrh14 := zp_int (hokh14 _ rfl).1
        obtain ⟨hPeh14, hGeh14, hth14⟩ := hpsih14
        have hth14 : rnh14 = 1 ↔ 0 ≤ p1 ∧ p1 < (zp_n u.2.1) tn 1 := hth14
        rw [hPeh14, hGeh14]
        rw [hvh14] at hth14
        refine zp_if (pc := 46) (tgt := 67) hx hb (zd_X11_work (46, .ifCond .eq 21, 3, 0, []) (List.mem_of_getElem? (i := 23) rfl)) rfl (fun (hc38 : rnh14 = 0) => ?_) (fun (hc38 : ¬ (rnh14 = 0)) => ?_)
        · refine zp_load (pc := 67) hx hb (zd_X11_work (67, .aload_n 0, 1, 0, []) (List.mem_of_getElem? (i := 32) rfl)) rfl (j := 0) rfl ?_
          refine zp_const (pc := 68) hx hb (zd_X11_work (68, .bipush (-2), 2, 0, []) (List.mem_of_getElem? (i := 33) rfl)) rfl rfl ?_
          refine zp_call (pc := 70) (how := 0) (idx := 111) (mi := 16) (S := []) hx hb hE hw heff hrm (zX_rfd hW) rfl (j := 11) rfl rfl (by decide +kernel) (zd_X11_work (70, .invokevirtual 111, 3, 0, []) (List.mem_of_getElem? (i := 34) rfl)) [(a : Int), (-2)] rfl ⟨zp_o2 hp, zp_o0 (by decide) (by decide) (by decide) (by decide), trivial⟩ (Nat.le_of_ble_eq_true rfl) trivial (fun al hal rnr15 Pr15 Gr15 hextr15 hfrr15 hokr15 hcsr15 hpsir15 => ?_)
          obtain rfl := List.mem_singleton.mp hal
          have hrr15 := zp_int (hokr15 _ rfl).1
          have yar15 := hextr15 _ _ hp
          have ytnr15 := hextr15 _ _ qtn
          have yunr15 := hextr15 _ _ qun
          have htr15 : rnr15 = (-2) := hpsir15
          have ez0 : Gr15 tn 3 = wk := ((zp_nf hfrr15 qtn rfl).trans hwk)
          refine zp_iret (pc := 73) (n := rnr15) hx hb hE hQ hU5 rfl (by decide) (zd_X11_work (73, .ireturn, 1, 0, []) (List.mem_of_getElem? (i := 35) rfl)) (j := 0) rfl (zp_o0 (by omega) (by omega) (by omega) (by omega)) ?_
          rw [hps]
          show (¬ (1 ≤ p2 ∧ p2 ≤ 600 ∧ 0 ≤ p3 ∧ p3 ≤ 23 ∧ 1 ≤ p4 ∧ p4 ≤ 99) → rnr15 = -1 ∧ Gr15 (zp_n u.2.1 a 0).toNat 3 = zp_n u.2.1 (zp_n u.2.1 a 0).toNat 3) ∧ ((1 ≤ p2 ∧ p2 ≤ 600 ∧ 0 ≤ p3 ∧ p3 ≤ 23 ∧ 1 ≤ p4 ∧ p4 ≤ 99) ∧ ¬ (0 ≤ p1 ∧ p1 < zp_n u.2.1 (zp_n u.2.1 a 0).toNat 1 ∧ (p5 = -1 ∨ (0 ≤ p5 ∧ p5 < zp_n u.2.1 (zp_n u.2.1 a 0).toNat 3))) → rnr15 = -2 ∧ Gr15 (zp_n u.2.1 a 0).toNat 3 = zp_n u.2.1 (zp_n u.2.1 a 0).toNat 3) ∧ ((1 ≤ p2 ∧ p2 ≤ 600 ∧ 0 ≤ p3 ∧ p3 ≤ 23 ∧ 1 ≤ p4 ∧ p4 ≤ 99) ∧ (0 ≤ p1 ∧ p1 < zp_n u.2.1 (zp_n u.2.1 a 0).toNat 1 ∧ (p5 = -1 ∨ (0 ≤ p5 ∧ p5 < zp_n u.2.1 (zp_n u.2.1 a 0).toNat 3))) ∧ 10 ≤ zp_n u.2.1 (zp_n u.2.1 a 0).toNat 3 → rnr15 = -5 ∧ Gr15 (zp_n u.2.1 a 0).toNat 3 = zp_n u.2.1 (zp_n u.2.1 a 0).toNat 3) ∧ ((1 ≤ p2 ∧ p2 ≤ 600 ∧ 0 ≤ p3 ∧ p3 ≤ 23 ∧ 1 ≤ p4 ∧ p4 ≤ 99) ∧ (0 ≤ p1 ∧ p1 < zp_n u.2.1 (zp_n u.2.1 a 0).toNat 1 ∧ (p5 = -1 ∨ (0 ≤ p5 ∧ p5 < zp_n u.2.1 (zp_n u.2.1 a 0).toNat 3))) ∧ zp_n u.2.1 (zp_n u.2.1 a 0).toNat 3 < 10 → rnr15 = zp_n u.2.1 (zp_n u.2.1 a 0).toNat 3 ∧ Gr15 (zp_n u.2.1 a 0).toNat 3 = zp_n u.2.1 (zp_n u.2.1 a 0).toNat 3 + 1)
          rw [htt]
          omega
        · refine zp_load (pc := 49) hx hb (zd_X11_work (49, .iload 5, 2, 0, []) (List.mem_of_getElem? (i := 24) rfl)) rfl (j := 5) rfl ?_
          refine zp_const (pc := 51) hx hb (zd_X11_work (51, .iconst (-1), 1, 0, []) (List.mem_of_getElem? (i := 25) rfl)) rfl rfl ?_
          refine zp_icmp (pc := 52) (tgt := 74) hx hb (zd_X11_work (52, .if_icmp .eq 22, 3, 0, []) (List.mem_of_getElem? (i := 26) rfl)) rfl (fun (hc39 : p5 = (-1)) => ?_) (fun (hc39 : ¬ (p5 = (-1))) => ?_)
          · refine zp_load (pc := 74) hx hb (zd_X11_work (74, .aload_n 0, 1, 0, []) (List.mem_of_getElem? (i := 36) rfl)) rfl (j := 0) rfl ?_
            refine zp_getf (n := (tn : Int)) (pc := 75) hx hb hE hw (zd_X11_work (75, .getfield 10, 3, 0, []) (List.mem_of_getElem? (i := 37) rfl)) (j := 50) rfl rfl rfl hp htn ?_
            refine zp_getf (n := wk) (pc := 78) hx hb hE hw (zd_X11_work (78, .getfield 153, 3, 0, []) (List.mem_of_getElem? (i := 38) rfl)) (j := 12) rfl rfl rfl qtn hwk ?_
            refine zp_const (pc := 81) hx hb (zd_X11_work (81, .bipush 10, 2, 0, []) (List.mem_of_getElem? (i := 39) rfl)) rfl rfl ?_
            refine zp_icmp (pc := 83) (tgt := 93) hx hb (zd_X11_work (83, .if_icmp .lt 10, 3, 0, []) (List.mem_of_getElem? (i := 40) rfl)) rfl (fun (hc40 : wk < 10) => ?_) (fun (hc40 : ¬ (wk < 10)) => ?_)
            · refine zp_load (pc := 93) hx hb (zd_X11_work (93, .aload_n 0, 1, 0, []) (List.mem_of_getElem? (i := 45) rfl)) rfl (j := 0) rfl ?_
              refine zp_getf (n := (un : Int)) (pc := 94) hx hb hE hw (zd_X11_work (94, .getfield 23, 3, 0, []) (List.mem_of_getElem? (i := 46) rfl)) (j := 52) rfl rfl rfl hp hun ?_
              refine zp_call (pc := 97) (how := 0) (idx := 124) (mi := 19) (S := []) hx hb hE hw heff hrm (zp_plain (zq_16 hW)) rfl (j := 13) rfl rfl (by decide +kernel) (zd_X11_work (97, .invokevirtual 124, 3, 0, []) (List.mem_of_getElem? (i := 47) rfl)) [(un : Int)] rfl ⟨zp_o2 qun, trivial⟩ (Nat.le_of_ble_eq_true rfl) trivial (fun al hal rnu16 Pu16 Gu16 hextu16 hfru16 hoku16 hcsu16 hpsiu16 => ?_)
              obtain rfl := List.mem_singleton.mp hal
              have yau16 := hextu16 _ _ hp
              have ytnu16 := hextu16 _ _ qtn
              have yunu16 := hextu16 _ _ qun
              refine zp_load (pc := 100) hx hb (zd_X11_work (100, .aload_n 0, 1, 0, []) (List.mem_of_getElem? (i := 48) rfl)) rfl (j := 0) rfl ?_
              refine zp_load (pc := 101) hx hb (zd_X11_work (101, .aload_n 0, 1, 0, []) (List.mem_of_getElem? (i := 49) rfl)) rfl (j := 0) rfl ?_
              refine zp_getf (n := (tn : Int)) (pc := 102) hx hb hE hw (zd_X11_work (102, .getfield 10, 3, 0, []) (List.mem_of_getElem? (i := 50) rfl)) (j := 50) rfl rfl rfl yau16 ((zp_nf hfru16 hp rfl).trans htn) ?_
              refine zp_load (pc := 105) hx hb (zd_X11_work (105, .iload_n 1, 1, 0, []) (List.mem_of_getElem? (i := 51) rfl)) rfl (j := 1) rfl ?_
              refine zp_load (pc := 106) hx hb (zd_X11_work (106, .iload_n 2, 1, 0, []) (List.mem_of_getElem? (i := 52) rfl)) rfl (j := 2) rfl ?_
              refine zp_load (pc := 107) hx hb (zd_X11_work (107, .iload_n 3, 1, 0, []) (List.mem_of_getElem? (i := 53) rfl)) rfl (j := 3) rfl ?_
              refine zp_load (pc := 108) hx hb (zd_X11_work (108, .iload 4, 2, 0, []) (List.mem_of_getElem? (i := 54) rfl)) rfl (j := 4) rfl ?_
              refine zp_load (pc := 110) hx hb (zd_X11_work (110, .iload 5, 2, 0, []) (List.mem_of_getElem? (i := 55) rfl)) rfl (j := 5) rfl ?_
              have qd17 : Gu16 tn 3 = wk := ((zp_nf hfru16 qtn rfl).trans hwk)
              refine zp_call (pc := 112) (how := 0) (idx := 156) (mi := 28) (S := [(2, (a : Int))]) hx hb hE hw heff hrm (zX_awk hW) rfl (j := 18) rfl rfl (by decide +kernel) (zd_X11_work (112, .invokevirtual 156, 3, 0, []) (List.mem_of_getElem? (i := 56) rfl)) [(tn : Int), p1, p2, p3, p4, p5] rfl ⟨zp_o2 ytnu16, zp_o0 (by omega) (by omega) (by omega) (by omega), zp_o0 (by omega) (by omega) (by omega) (by omega), zp_o0 (by omega) (by omega) (by omega) (by omega), zp_o0 (by omega) (by omega) (by omega) (by omega), zp_o0 (by omega) (by omega) (by omega) (by omega), trivial⟩ (Nat.le_of_ble_eq_true rfl) (show Gu16 tn 3 < 10 by omega) (fun al hal rnd17 Pd17 Gd17 hextd17 hfrd17 hokd17 hcsd17 hpsid17 => ?_)
              obtain rfl := List.mem_singleton.mp hal
              have hrd17 := zp_int (hokd17 _ rfl).1
              have yad17 := hextd17 _ _ yau16
              have ytnd17 := hextd17 _ _ ytnu16
              have yund17 := hextd17 _ _ yunu16
              obtain ⟨hP9d17, htd17⟩ := hpsid17
              have htd17 : rnd17 = Gu16 tn 3 ∧ Gd17 tn 3 = Gu16 tn 3 + 1 := htd17
              obtain ⟨hud17, hvd17⟩ := htd17
              have hzd17 : Gd17 tn 3 = wk + 1 := by omega
              have hzbd17 : 0 ≤ wk := by omega
              refine zp_call (pc := 115) (how := 0) (idx := 118) (mi := 17) (S := []) hx hb hE hw heff hrm (zX_awd hW) rfl (j := 12) rfl rfl (by decide +kernel) (zd_X11_work (115, .invokevirtual 118, 3, 0, []) (List.mem_of_getElem? (i := 57) rfl)) [(a : Int), rnd17] rfl ⟨zp_o2 yad17, zp_o0 (by omega) (by omega) (by omega) (by omega), trivial⟩ (Nat.le_of_ble_eq_true rfl) trivial (fun al hal rns18 Ps18 Gs18 hexts18 hfrs18 hoks18 hcss18 hpsis18 => ?_)
              obtain rfl := List.mem_singleton.mp hal
              have hrs18 := zp_int (hoks18 _ rfl).1
              have yas18 := hexts18 _ _ yad17
              have ytns18 := hexts18 _ _ ytnd17
              have yuns18 := hexts18 _ _ yund17
              have hts18 : rns18 = rnd17 := hpsis18
              have ez0 : Gs18 tn 3 = (wk + 1) := ((zp_nf hfrs18 ytnd17 rfl).trans hzd17)
              refine zp_iret (pc := 118) (n := rns18) hx hb hE hQ hU5 rfl (by decide) (zd_X11_work (118, .ireturn, 1, 0, []) (List.mem_of_getElem? (i := 58) rfl)) (j := 0) rfl (zp_o0 (by omega) (by omega) (by omega) (by omega)) ?_
              rw [hps]
              show (¬ (1 ≤ p2 ∧ p2 ≤ 600 ∧ 0 ≤ p3 ∧ p3 ≤ 23 ∧ 1 ≤ p4 ∧ p4 ≤ 99) → rns18 = -1 ∧ Gs18 (zp_n u.2.1 a 0).toNat 3 = zp_n u.2.1 (zp_n u.2.1 a 0).toNat 3) ∧ ((1 ≤ p2 ∧ p2 ≤ 600 ∧ 0 ≤ p3 ∧ p3 ≤ 23 ∧ 1 ≤ p4 ∧ p4 ≤ 99) ∧ ¬ (0 ≤ p1 ∧ p1 < zp_n u.2.1 (zp_n u.2.1 a 0).toNat 1 ∧ (p5 = -1 ∨ (0 ≤ p5 ∧ p5 < zp_n u.2.1 (zp_n u.2.1 a 0).toNat 3))) → rns18 = -2 ∧ Gs18 (zp_n u.2.1 a 0).toNat 3 = zp_n u.2.1 (zp_n u.2.1 a 0).toNat 3) ∧ ((1 ≤ p2 ∧ p2 ≤ 600 ∧ 0 ≤ p3 ∧ p3 ≤ 23 ∧ 1 ≤ p4 ∧ p4 ≤ 99) ∧ (0 ≤ p1 ∧ p1 < zp_n u.2.1 (zp_n u.2.1 a 0).toNat 1 ∧ (p5 = -1 ∨ (0 ≤ p5 ∧ p5 < zp_n u.2.1 (zp_n u.2.1 a 0).toNat 3))) ∧ 10 ≤ zp_n u.2.1 (zp_n u.2.1 a 0).toNat 3 → rns18 = -5 ∧ Gs18 (zp_n u.2.1 a 0).toNat 3 = zp_n u.2.1 (zp_n u.2.1 a 0).toNat 3) ∧ ((1 ≤ p2 ∧ p2 ≤ 600 ∧ 0 ≤ p3 ∧ p3 ≤ 23 ∧ 1 ≤ p4 ∧ p4 ≤ 99) ∧ (0 ≤ p1 ∧ p1 < zp_n u.2.1 (zp_n u.2.1 a 0).toNat 1 ∧ (p5 = -1 ∨ (0 ≤ p5 ∧ p5 < zp_n u.2.1 (zp_n u.2.1 a 0).toNat 3))) ∧ zp_n u.2.1 (zp_n u.2.1 a 0).toNat 3 < 10 → rns18 = zp_n u.2.1 (zp_n u.2.1 a 0).toNat 3 ∧ Gs18 (zp_n u.2.1 a 0).toNat 3 = zp_n u.2.1 (zp_n u.2.1 a 0).toNat 3 + 1)
              rw [htt]
              omega
            · refine zp_load (pc := 86) hx hb (zd_X11_work (86, .aload_n 0, 1, 0, []) (List.mem_of_getElem? (i := 41) rfl)) rfl (j := 0) rfl ?_
              refine zp_const (pc := 87) hx hb (zd_X11_work (87, .bipush (-5), 2, 0, []) (List.mem_of_getElem? (i := 42) rfl)) rfl rfl ?_
              refine zp_call (pc := 89) (how := 0) (idx := 111) (mi := 16) (S := []) hx hb hE hw heff hrm (zX_rfd hW) rfl (j := 11) rfl rfl (by decide +kernel) (zd_X11_work (89, .invokevirtual 111, 3, 0, []) (List.mem_of_getElem? (i := 43) rfl)) [(a : Int), (-5)] rfl ⟨zp_o2 hp, zp_o0 (by decide) (by decide) (by decide) (by decide), trivial⟩ (Nat.le_of_ble_eq_true rfl) trivial (fun al hal rnr19 Pr19 Gr19 hextr19 hfrr19 hokr19 hcsr19 hpsir19 => ?_)
              obtain rfl := List.mem_singleton.mp hal
              have hrr19 := zp_int (hokr19 _ rfl).1
              have yar19 := hextr19 _ _ hp
              have ytnr19 := hextr19 _ _ qtn
              have yunr19 := hextr19 _ _ qun
              have htr19 : rnr19 = (-5) := hpsir19
              have ez0 : Gr19 tn 3 = wk := ((zp_nf hfrr19 qtn rfl).trans hwk)
              refine zp_iret (pc := 92) (n := rnr19) hx hb hE hQ hU5 rfl (by decide) (zd_X11_work (92, .ireturn, 1, 0, []) (List.mem_of_getElem? (i := 44) rfl)) (j := 0) rfl (zp_o0 (by omega) (by omega) (by omega) (by omega)) ?_
              rw [hps]
              show (¬ (1 ≤ p2 ∧ p2 ≤ 600 ∧ 0 ≤ p3 ∧ p3 ≤ 23 ∧ 1 ≤ p4 ∧ p4 ≤ 99) → rnr19 = -1 ∧ Gr19 (zp_n u.2.1 a 0).toNat 3 = zp_n u.2.1 (zp_n u.2.1 a 0).toNat 3) ∧ ((1 ≤ p2 ∧ p2 ≤ 600 ∧ 0 ≤ p3 ∧ p3 ≤ 23 ∧ 1 ≤ p4 ∧ p4 ≤ 99) ∧ ¬ (0 ≤ p1 ∧ p1 < zp_n u.2.1 (zp_n u.2.1 a 0).toNat 1 ∧ (p5 = -1 ∨ (0 ≤ p5 ∧ p5 < zp_n u.2.1 (zp_n u.2.1 a 0).toNat 3))) → rnr19 = -2 ∧ Gr19 (zp_n u.2.1 a 0).toNat 3 = zp_n u.2.1 (zp_n u.2.1 a 0).toNat 3) ∧ ((1 ≤ p2 ∧ p2 ≤ 600 ∧ 0 ≤ p3 ∧ p3 ≤ 23 ∧ 1 ≤ p4 ∧ p4 ≤ 99) ∧ (0 ≤ p1 ∧ p1 < zp_n u.2.1 (zp_n u.2.1 a 0).toNat 1 ∧ (p5 = -1 ∨ (0 ≤ p5 ∧ p5 < zp_n u.2.1 (zp_n u.2.1 a 0).toNat 3))) ∧ 10 ≤ zp_n u.2.1 (zp_n u.2.1 a 0).toNat 3 → rnr19 = -5 ∧ Gr19 (zp_n u.2.1 a 0).toNat 3 = zp_n u.2.1 (zp_n u.2.1 a 0).toNat 3) ∧ ((1 ≤ p2 ∧ p2 ≤ 600 ∧ 0 ≤ p3 ∧ p3 ≤ 23 ∧ 1 ≤ p4 ∧ p4 ≤ 99) ∧ (0 ≤ p1 ∧ p1 < zp_n u.2.1 (zp_n u.2.1 a 0).toNat 1 ∧ (p5 = -1 ∨ (0 ≤ p5 ∧ p5 < zp_n u.2.1 (zp_n u.2.1 a 0).toNat 3))) ∧ zp_n u.2.1 (zp_n u.2.1 a 0).toNat 3 < 10 → rnr19 = zp_n u.2.1 (zp_n u.2.1 a 0).toNat 3 ∧ Gr19 (zp_n u.2.1 a 0).toNat 3 = zp_n u.2.1 (zp_n u.2.1 a 0).toNat 3 + 1)
              rw [htt]
              omega
          · refine zp_load (pc := 55) hx hb (zd_X11_work (55, .aload_n 0, 1, 0, []) (List.mem_of_getElem? (i := 27) rfl)) rfl (j := 0) rfl ?_
            refine zp_getf (n := (tn : Int)) (pc := 56) hx hb hE hw (zd_X11_work (56, .getfield 10, 3, 0, []) (List.mem_of_getElem? (i := 28) rfl)) (j := 50) rfl rfl rfl hp htn ?_
            refine zp_load (pc := 59) hx hb (zd_X11_work (59, .iload 5, 2, 0, []) (List.mem_of_getElem? (i := 29) rfl)) rfl (j := 5) rfl ?_
            have hvh20 : (zp_n u.2.1) tn 3 = wk := hwk
            refine zp_call (pc := 61) (how := 0) (idx := 150) (mi := 26) (S := []) hx hb hE hw heff hrm (zX_hwk hW) rfl (j := 17) rfl rfl (by decide +kernel) (zd_X11_work (61, .invokevirtual 150, 3, 0, []) (List.mem_of_getElem? (i := 30) rfl)) [(tn : Int), p5] rfl ⟨zp_o2 qtn, zp_o0 (by omega) (by omega) (by omega) (by omega), trivial⟩ (Nat.le_of_ble_eq_true rfl) trivial (fun al hal rnh20 Ph20 Gh20 hexth20 hfrh20 hokh20 hcsh20 hpsih20 => ?_)
            obtain rfl := List.mem_singleton.mp hal
            have hrh20 := zp_int (hokh20 _ rfl).1
            obtain ⟨hPeh20, hGeh20, hth20⟩ := hpsih20
            have hth20 : rnh20 = 1 ↔ 0 ≤ p5 ∧ p5 < (zp_n u.2.1) tn 3 := hth20
            rw [hPeh20, hGeh20]
            rw [hvh20] at hth20
            refine zp_if (pc := 64) (tgt := 74) hx hb (zd_X11_work (64, .ifCond .ne 10, 3, 0, []) (List.mem_of_getElem? (i := 31) rfl)) rfl (fun (hc41 : ¬ rnh20 = 0) => ?_) (fun (hc41 : ¬ (¬ rnh20 = 0)) => ?_)
            · refine zp_load (pc := 74) hx hb (zd_X11_work (74, .aload_n 0, 1, 0, []) (List.mem_of_getElem? (i := 36) rfl)) rfl (j := 0) rfl ?_
              refine zp_getf (n := (tn : Int)) (pc := 75) hx hb hE hw (zd_X11_work (75, .getfield 10, 3, 0, []) (List.mem_of_getElem? (i := 37) rfl)) (j := 50) rfl rfl rfl hp htn ?_
              refine zp_getf (n := wk) (pc := 78) hx hb hE hw (zd_X11_work (78, .getfield 153, 3, 0, []) (List.mem_of_getElem? (i := 38) rfl)) (j := 12) rfl rfl rfl qtn hwk ?_
              refine zp_const (pc := 81) hx hb (zd_X11_work (81, .bipush 10, 2, 0, []) (List.mem_of_getElem? (i := 39) rfl)) rfl rfl ?_
              refine zp_icmp (pc := 83) (tgt := 93) hx hb (zd_X11_work (83, .if_icmp .lt 10, 3, 0, []) (List.mem_of_getElem? (i := 40) rfl)) rfl (fun (hc42 : wk < 10) => ?_) (fun (hc42 : ¬ (wk < 10)) => ?_)
              · refine zp_load (pc := 93) hx hb (zd_X11_work (93, .aload_n 0, 1, 0, []) (List.mem_of_getElem? (i := 45) rfl)) rfl (j := 0) rfl ?_
                refine zp_getf (n := (un : Int)) (pc := 94) hx hb hE hw (zd_X11_work (94, .getfield 23, 3, 0, []) (List.mem_of_getElem? (i := 46) rfl)) (j := 52) rfl rfl rfl hp hun ?_
                refine zp_call (pc := 97) (how := 0) (idx := 124) (mi := 19) (S := []) hx hb hE hw heff hrm (zp_plain (zq_16 hW)) rfl (j := 13) rfl rfl (by decide +kernel) (zd_X11_work (97, .invokevirtual 124, 3, 0, []) (List.mem_of_getElem? (i := 47) rfl)) [(un : Int)] rfl ⟨zp_o2 qun, trivial⟩ (Nat.le_of_ble_eq_true rfl) trivial (fun al hal rnu21 Pu21 Gu21 hextu21 hfru21 hoku21 hcsu21 hpsiu21 => ?_)
                obtain rfl := List.mem_singleton.mp hal
                have yau21 := hextu21 _ _ hp
                have ytnu21 := hextu21 _ _ qtn
                have yunu21 := hextu21 _ _ qun
                refine zp_load (pc := 100) hx hb (zd_X11_work (100, .aload_n 0, 1, 0, []) (List.mem_of_getElem? (i := 48) rfl)) rfl (j := 0) rfl ?_
                refine zp_load (pc := 101) hx hb (zd_X11_work (101, .aload_n 0, 1, 0, []) (List.mem_of_getElem? (i := 49) rfl)) rfl (j := 0) rfl ?_
                refine zp_getf (n := (tn : Int)) (pc := 102) hx hb hE hw (zd_X11_work (102, .getfield 10, 3, 0, []) (List.mem_of_getElem? (i := 50) rfl)) (j := 50) rfl rfl rfl yau21 ((zp_nf hfru21 hp rfl).trans htn) ?_
                refine zp_load (pc := 105) hx hb (zd_X11_work (105, .iload_n 1, 1, 0, []) (List.mem_of_getElem? (i := 51) rfl)) rfl (j := 1) rfl ?_
                refine zp_load (pc := 106) hx hb (zd_X11_work (106, .iload_n 2, 1, 0, []) (List.mem_of_getElem? (i := 52) rfl)) rfl (j := 2) rfl ?_
                refine zp_load (pc := 107) hx hb (zd_X11_work (107, .iload_n 3, 1, 0, []) (List.mem_of_getElem? (i := 53) rfl)) rfl (j := 3) rfl ?_
                refine zp_load (pc := 108) hx hb (zd_X11_work (108, .iload 4, 2, 0, []) (List.mem_of_getElem? (i := 54) rfl)) rfl (j := 4) rfl ?_
                refine zp_load (pc := 110) hx hb (zd_X11_work (110, .iload 5, 2, 0, []) (List.mem_of_getElem? (i := 55) rfl)) rfl (j := 5) rfl ?_
                have qd22 : Gu21 tn 3 = wk := ((zp_nf hfru21 qtn rfl).trans hwk)
                refine zp_call (pc := 112) (how := 0) (idx := 156) (mi := 28) (S := [(2, (a : Int))]) hx hb hE hw heff hrm (zX_awk hW) rfl (j := 18) rfl rfl (by decide +kernel) (zd_X11_work (112, .invokevirtual 156, 3, 0, []) (List.mem_of_getElem? (i := 56) rfl)) [(tn : Int), p1, p2, p3, p4, p5] rfl ⟨zp_o2 ytnu21, zp_o0 (by omega) (by omega) (by omega) (by omega), zp_o0 (by omega) (by omega) (by omega) (by omega), zp_o0 (by omega) (by omega) (by omega) (by omega), zp_o0 (by omega) (by omega) (by omega) (by omega), zp_o0 (by omega) (by omega) (by omega) (by omega), trivial⟩ (Nat.le_of_ble_eq_true rfl) (show Gu21 tn 3 < 10 by omega) (fun al hal rnd22 Pd22 Gd22 hextd22 hfrd22 hokd22 hcsd22 hpsid22 => ?_)
                obtain rfl := List.mem_singleton.mp hal
                have hrd22 := zp_int (hokd22 _ rfl).1
                have yad22 := hextd22 _ _ yau21
                have ytnd22 := hextd22 _ _ ytnu21
                have yund22 := hextd22 _ _ yunu21
                obtain ⟨hP9d22, htd22⟩ := hpsid22
                have htd22 : rnd22 = Gu21 tn 3 ∧ Gd22 tn 3 = Gu21 tn 3 + 1 := htd22
                obtain ⟨hud22, hvd22⟩ := htd22
                have hzd22 : Gd22 tn 3 = wk + 1 := by omega
                have hzbd22 : 0 ≤ wk := by omega
                refine zp_call (pc := 115) (how := 0) (idx := 118) (mi := 17) (S := []) hx hb hE hw heff hrm (zX_awd hW) rfl (j := 12) rfl rfl (by decide +kernel) (zd_X11_work (115, .invokevirtual 118, 3, 0, []) (List.mem_of_getElem? (i := 57) rfl)) [(a : Int), rnd22] rfl ⟨zp_o2 yad22, zp_o0 (by omega) (by omega) (by omega) (by omega), trivial⟩ (Nat.le_of_ble_eq_true rfl) trivial (fun al hal rns23 Ps23 Gs23 hexts23 hfrs23 hoks23 hcss23 hpsis23 => ?_)
                obtain rfl := List.mem_singleton.mp hal
                have hrs23 := zp_int (hoks23 _ rfl).1
                have yas23 := hexts23 _ _ yad22
                have ytns23 := hexts23 _ _ ytnd22
                have yuns23 := hexts23 _ _ yund22
                have hts23 : rns23 = rnd22 := hpsis23
                have ez0 : Gs23 tn 3 = (wk + 1) := ((zp_nf hfrs23 ytnd22 rfl).trans hzd22)
                refine zp_iret (pc := 118) (n := rns23) hx hb hE hQ hU5 rfl (by decide) (zd_X11_work (118, .ireturn, 1, 0, []) (List.mem_of_getElem? (i := 58) rfl)) (j := 0) rfl (zp_o0 (by omega) (by omega) (by omega) (by omega)) ?_
                rw [hps]
                show (¬ (1 ≤ p2 ∧ p2 ≤ 600 ∧ 0 ≤ p3 ∧ p3 ≤ 23 ∧ 1 ≤ p4 ∧ p4 ≤ 99) → rns23 = -1 ∧ Gs23 (zp_n u.2.1 a 0).toNat 3 = zp_n u.2.1 (zp_n u.2.1 a 0).toNat 3) ∧ ((1 ≤ p2 ∧ p2 ≤ 600 ∧ 0 ≤ p3 ∧ p3 ≤ 23 ∧ 1 ≤ p4 ∧ p4 ≤ 99) ∧ ¬ (0 ≤ p1 ∧ p1 < zp_n u.2.1 (zp_n u.2.1 a 0).toNat 1 ∧ (p5 = -1 ∨ (0 ≤ p5 ∧ p5 < zp_n u.2.1 (zp_n u.2.1 a 0).toNat 3))) → rns23 = -2 ∧ Gs23 (zp_n u.2.1 a 0).toNat 3 = zp_n u.2.1 (zp_n u.2.1 a 0).toNat 3) ∧ ((1 ≤ p2 ∧ p2 ≤ 600 ∧ 0 ≤ p3 ∧ p3 ≤ 23 ∧ 1 ≤ p4 ∧ p4 ≤ 99) ∧ (0 ≤ p1 ∧ p1 < zp_n u.2.1 (zp_n u.2.1 a 0).toNat 1 ∧ (p5 = -1 ∨ (0 ≤ p5 ∧ p5 < zp_n u.2.1 (zp_n u.2.1 a 0).toNat 3))) ∧ 10 ≤ zp_n u.2.1 (zp_n u.2.1 a 0).toNat 3 → rns23 = -5 ∧ Gs23 (zp_n u.2.1 a 0).toNat 3 = zp_n u.2.1 (zp_n u.2.1 a 0).toNat 3) ∧ ((1 ≤ p2 ∧ p2 ≤ 600 ∧ 0 ≤ p3 ∧ p3 ≤ 23 ∧ 1 ≤ p4 ∧ p4 ≤ 99) ∧ (0 ≤ p1 ∧ p1 < zp_n u.2.1 (zp_n u.2.1 a 0).toNat 1 ∧ (p5 = -1 ∨ (0 ≤ p5 ∧ p5 < zp_n u.2.1 (zp_n u.2.1 a 0).toNat 3))) ∧ zp_n u.2.1 (zp_n u.2.1 a 0).toNat 3 < 10 → rns23 = zp_n u.2.1 (zp_n u.2.1 a 0).toNat 3 ∧ Gs23 (zp_n u.2.1 a 0).toNat 3 = zp_n u.2.1 (zp_n u.2.1 a 0).toNat 3 + 1)
                rw [htt]
                omega
              · refine zp_load (pc := 86) hx hb (zd_X11_work (86, .aload_n 0, 1, 0, []) (List.mem_of_getElem? (i := 41) rfl)) rfl (j := 0) rfl ?_
                refine zp_const (pc := 87) hx hb (zd_X11_work (87, .bipush (-5), 2, 0, []) (List.mem_of_getElem? (i := 42) rfl)) rfl rfl ?_
                refine zp_call (pc := 89) (how := 0) (idx := 111) (mi := 16) (S := []) hx hb hE hw heff hrm (zX_rfd hW) rfl (j := 11) rfl rfl (by decide +kernel) (zd_X11_work (89, .invokevirtual 111, 3, 0, []) (List.mem_of_getElem? (i := 43) rfl)) [(a : Int), (-5)] rfl ⟨zp_o2 hp, zp_o0 (by decide) (by decide) (by decide) (by decide), trivial⟩ (Nat.le_of_ble_eq_true rfl) trivial (fun al hal rnr24 Pr24 Gr24 hextr24 hfrr24 hokr24 hcsr24 hpsir24 => ?_)
                obtain rfl := List.mem_singleton.mp hal
                have hrr24 := zp_int (hokr24 _ rfl).1
                have yar24 := hextr24 _ _ hp
                have ytnr24 := hextr24 _ _ qtn
                have yunr24 := hextr24 _ _ qun
                have htr24 : rnr24 = (-5) := hpsir24
                have ez0 : Gr24 tn 3 = wk := ((zp_nf hfrr24 qtn rfl).trans hwk)
                refine zp_iret (pc := 92) (n := rnr24) hx hb hE hQ hU5 rfl (by decide) (zd_X11_work (92, .ireturn, 1, 0, []) (List.mem_of_getElem? (i := 44) rfl)) (j := 0) rfl (zp_o0 (by omega) (by omega) (by omega) (by omega)) ?_
                rw [hps]
                show (¬ (1 ≤ p2 ∧ p2 ≤ 600 ∧ 0 ≤ p3 ∧ p3 ≤ 23 ∧ 1 ≤ p4 ∧ p4 ≤ 99) → rnr24 = -1 ∧ Gr24 (zp_n u.2.1 a 0).toNat 3 = zp_n u.2.1 (zp_n u.2.1 a 0).toNat 3) ∧ ((1 ≤ p2 ∧ p2 ≤ 600 ∧ 0 ≤ p3 ∧ p3 ≤ 23 ∧ 1 ≤ p4 ∧ p4 ≤ 99) ∧ ¬ (0 ≤ p1 ∧ p1 < zp_n u.2.1 (zp_n u.2.1 a 0).toNat 1 ∧ (p5 = -1 ∨ (0 ≤ p5 ∧ p5 < zp_n u.2.1 (zp_n u.2.1 a 0).toNat 3))) → rnr24 = -2 ∧ Gr24 (zp_n u.2.1 a 0).toNat 3 = zp_n u.2.1 (zp_n u.2.1 a 0).toNat 3) ∧ ((1 ≤ p2 ∧ p2 ≤ 600 ∧ 0 ≤ p3 ∧ p3 ≤ 23 ∧ 1 ≤ p4 ∧ p4 ≤ 99) ∧ (0 ≤ p1 ∧ p1 < zp_n u.2.1 (zp_n u.2.1 a 0).toNat 1 ∧ (p5 = -1 ∨ (0 ≤ p5 ∧ p5 < zp_n u.2.1 (zp_n u.2.1 a 0).toNat 3))) ∧ 10 ≤ zp_n u.2.1 (zp_n u.2.1 a 0).toNat 3 → rnr24 = -5 ∧ Gr24 (zp_n u.2.1 a 0).toNat 3 = zp_n u.2.1 (zp_n u.2.1 a 0).toNat 3) ∧ ((1 ≤ p2 ∧ p2 ≤ 600 ∧ 0 ≤ p3 ∧ p3 ≤ 23 ∧ 1 ≤ p4 ∧ p4 ≤ 99) ∧ (0 ≤ p1 ∧ p1 < zp_n u.2.1 (zp_n u.2.1 a 0).toNat 1 ∧ (p5 = -1 ∨ (0 ≤ p5 ∧ p5 < zp_n u.2.1 (zp_n u.2.1 a 0).toNat 3))) ∧ zp_n u.2.1 (zp_n u.2.1 a 0).toNat 3 < 10 → rnr24 = zp_n u.2.1 (zp_n u.2.1 a 0).toNat 3 ∧ Gr24 (zp_n u.2.1 a 0).toNat 3 = zp_n u.2.1 (zp_n u.2.1 a 0).toNat 3 + 1)
                rw [htt]
                omega
            · refine zp_load (pc := 67) hx hb (zd_X11_work (67, .aload_n 0, 1, 0, []) (List.mem_of_getElem? (i := 32) rfl)) rfl (j := 0) rfl ?_
              refine zp_const (pc := 68) hx hb (zd_X11_work (68, .bipush (-2), 2, 0, []) (List.mem_of_getElem? (i := 33) rfl)) rfl rfl ?_
              refine zp_call (pc := 70) (how := 0) (idx := 111) (mi := 16) (S := []) hx hb hE hw heff hrm (zX_rfd hW) rfl (j := 11) rfl rfl (by decide +kernel) (zd_X11_work (70, .invokevirtual 111, 3, 0, []) (List.mem_of_getElem? (i := 34) rfl)) [(a : Int), (-2)] rfl ⟨zp_o2 hp, zp_o0 (by decide) (by decide) (by decide) (by decide), trivial⟩ (Nat.le_of_ble_eq_true rfl) trivial (fun al hal rnr25 Pr25 Gr25 hextr25 hfrr25 hokr25 hcsr25 hpsir25 => ?_)
              obtain rfl := List.mem_singleton.mp hal
              have hrr25 := zp_int (hokr25 _ rfl).1
              have yar25 := hextr25 _ _ hp
              have ytnr25 := hextr25 _ _ qtn
              have yunr25 := hextr25 _ _ qun
              have htr25 : rnr25 = (-2) := hpsir25
              have ez0 : Gr25 tn 3 = wk := ((zp_nf hfrr25 qtn rfl).trans hwk)
              refine zp_iret (pc := 73) (n := rnr25) hx hb hE hQ hU5 rfl (by decide) (zd_X11_work (73, .ireturn, 1, 0, []) (List.mem_of_getElem? (i := 35) rfl)) (j := 0) rfl (zp_o0 (by omega) (by omega) (by omega) (by omega)) ?_
              rw [hps]
              show (¬ (1 ≤ p2 ∧ p2 ≤ 600 ∧ 0 ≤ p3 ∧ p3 ≤ 23 ∧ 1 ≤ p4 ∧ p4 ≤ 99) → rnr25 = -1 ∧ Gr25 (zp_n u.2.1 a 0).toNat 3 = zp_n u.2.1 (zp_n u.2.1 a 0).toNat 3) ∧ ((1 ≤ p2 ∧ p2 ≤ 600 ∧ 0 ≤ p3 ∧ p3 ≤ 23 ∧ 1 ≤ p4 ∧ p4 ≤ 99) ∧ ¬ (0 ≤ p1 ∧ p1 < zp_n u.2.1 (zp_n u.2.1 a 0).toNat 1 ∧ (p5 = -1 ∨ (0 ≤ p5 ∧ p5 < zp_n u.2.1 (zp_n u.2.1 a 0).toNat 3))) → rnr25 = -2 ∧ Gr25 (zp_n u.2.1 a 0).toNat 3 = zp_n u.2.1 (zp_n u.2.1 a 0).toNat 3) ∧ ((1 ≤ p2 ∧ p2 ≤ 600 ∧ 0 ≤ p3 ∧ p3 ≤ 23 ∧ 1 ≤ p4 ∧ p4 ≤ 99) ∧ (0 ≤ p1 ∧ p1 < zp_n u.2.1 (zp_n u.2.1 a 0).toNat 1 ∧ (p5 = -1 ∨ (0 ≤ p5 ∧ p5 < zp_n u.2.1 (zp_n u.2.1 a 0).toNat 3))) ∧ 10 ≤ zp_n u.2.1 (zp_n u.2.1 a 0).toNat 3 → rnr25 = -5 ∧ Gr25 (zp_n u.2.1 a 0).toNat 3 = zp_n u.2.1 (zp_n u.2.1 a 0).toNat 3) ∧ ((1 ≤ p2 ∧ p2 ≤ 600 ∧ 0 ≤ p3 ∧ p3 ≤ 23 ∧ 1 ≤ p4 ∧ p4 ≤ 99) ∧ (0 ≤ p1 ∧ p1 < zp_n u.2.1 (zp_n u.2.1 a 0).toNat 1 ∧ (p5 = -1 ∨ (0 ≤ p5 ∧ p5 < zp_n u.2.1 (zp_n u.2.1 a 0).toNat 3))) ∧ zp_n u.2.1 (zp_n u.2.1 a 0).toNat 3 < 10 → rnr25 = zp_n u.2.1 (zp_n u.2.1 a 0).toNat 3 ∧ Gr25 (zp_n u.2.1 a 0).toNat 3 = zp_n u.2.1 (zp_n u.2.1 a 0).toNat 3 + 1)
              rw [htt]
              omega
      · refine zp_load (pc := 32) hx hb (zd_X11_work (32, .aload_n 0, 1, 0, []) (List.mem_of_getElem? (i := 15) rfl)) rfl (j := 0) rfl ?_
        refine zp_const (pc := 33) hx hb (zd_X11_work (33, .iconst (-1), 1, 0, []) (List.mem_of_getElem? (i := 16) rfl)) rfl rfl ?_
        refine zp_call (pc := 34) (how := 0) (idx := 111) (mi := 16) (S := []) hx hb hE hw heff hrm (zX_rfd hW) rfl (j := 11) rfl rfl (by decide +kernel) (zd_X11_work (34, .invokevirtual 111, 3, 0, []) (List.mem_of_getElem? (i := 17) rfl)) [(a : Int), (-1)] rfl ⟨zp_o2 hp, zp_o0 (by decide) (by decide) (by decide) (by decide), trivial⟩ (Nat.le_of_ble_eq_true rfl) trivial (fun al hal rnr26 Pr26 Gr26 hextr26 hfrr26 hokr26 hcsr26 hpsir26 => ?_)
        obtain rfl := List.mem_singleton.mp hal
        have hrr26 := zp_int (hokr26 _ rfl).1
        have yar26 := hextr26 _ _ hp
        have ytnr26 := hextr26 _ _ qtn
        have yunr26 := hextr26 _ _ qun
        have htr26 : rnr26 = (-1) := hpsir26
        have ez0 : Gr26 tn 3 = wk := ((zp_nf hfrr26 qtn rfl).trans hwk)
        refine zp_iret (pc := 37) (n := rnr26) hx hb hE hQ hU5 rfl (by decide) (zd_X11_work (37, .ireturn, 1, 0, []) (List.mem_of_getElem? (i := 18) rfl)) (j := 0) rfl (zp_o0 (by omega) (by omega) (by omega) (by omega)) ?_
        rw [hps]
        show (¬ (1 ≤ p2 ∧ p2 ≤ 600 ∧ 0 ≤ p3 ∧ p3 ≤ 23 ∧ 1 ≤ p4 ∧ p4 ≤ 99) → rnr26 = -1 ∧ Gr26 (zp_n u.2.1 a 0).toNat 3 = zp_n u.2.1 (zp_n u.2.1 a 0).toNat 3) ∧ ((1 ≤ p2 ∧ p2 ≤ 600 ∧ 0 ≤ p3 ∧ p3 ≤ 23 ∧ 1 ≤ p4 ∧ p4 ≤ 99) ∧ ¬ (0 ≤ p1 ∧ p1 < zp_n u.2.1 (zp_n u.2.1 a 0).toNat 1 ∧ (p5 = -1 ∨ (0 ≤ p5 ∧ p5 < zp_n u.2.1 (zp_n u.2.1 a 0).toNat 3))) → rnr26 = -2 ∧ Gr26 (zp_n u.2.1 a 0).toNat 3 = zp_n u.2.1 (zp_n u.2.1 a 0).toNat 3) ∧ ((1 ≤ p2 ∧ p2 ≤ 600 ∧ 0 ≤ p3 ∧ p3 ≤ 23 ∧ 1 ≤ p4 ∧ p4 ≤ 99) ∧ (0 ≤ p1 ∧ p1 < zp_n u.2.1 (zp_n u.2.1 a 0).toNat 1 ∧ (p5 = -1 ∨ (0 ≤ p5 ∧ p5 < zp_n u.2.1 (zp_n u.2.1 a 0).toNat 3))) ∧ 10 ≤ zp_n u.2.1 (zp_n u.2.1 a 0).toNat 3 → rnr26 = -5 ∧ Gr26 (zp_n u.2.1 a 0).toNat 3 = zp_n u.2.1 (zp_n u.2.1 a 0).toNat 3) ∧ ((1 ≤ p2 ∧ p2 ≤ 600 ∧ 0 ≤ p3 ∧ p3 ≤ 23 ∧ 1 ≤ p4 ∧ p4 ≤ 99) ∧ (0 ≤ p1 ∧ p1 < zp_n u.2.1 (zp_n u.2.1 a 0).toNat 1 ∧ (p5 = -1 ∨ (0 ≤ p5 ∧ p5 < zp_n u.2.1 (zp_n u.2.1 a 0).toNat 3))) ∧ zp_n u.2.1 (zp_n u.2.1 a 0).toNat 3 < 10 → rnr26 = zp_n u.2.1 (zp_n u.2.1 a 0).toNat 3 ∧ Gr26 (zp_n u.2.1 a 0).toNat 3 = zp_n u.2.1 (zp_n u.2.1 a 0).toNat 3 + 1)
        rw [htt]
        omega
def zK_sgs : zk_K := (zt_mn 151, prog_1_method_39_code, 4, (Option.some Jvm.ClassFile.FieldType.int), 1, 11, [(2, 12, 0, 0), (0, 0, (-2147483648), 2147483647), (0, 0, (-2147483648), 2147483647), (0, 0, (-2147483648), 2147483647)], [(some (0, 0, (-5), 8), [])], [(49, 1001, 0), (50, 1001, 0), (51, 1001, 0), (10, 9, 0), (12, 18, 0), (57, 1002, 0)], (1, 40, 0, 0))
def zψ_sgs : (Nat → Option Nat) → (Nat → Nat → Int) → List Int → (Nat → Option Nat) → (Nat → Nat → Int) → Int → Prop := fun P G ps P' G' rn => (¬ (0 ≤ ps.getD 2 0 ∧ ps.getD 2 0 ≤ 23 ∧ 0 ≤ ps.getD 3 0 ∧ ps.getD 3 0 ≤ 600) → rn = -1 ∧ G' (G (zp_0 ps) 0).toNat 9 = G (G (zp_0 ps) 0).toNat 9) ∧ ((0 ≤ ps.getD 2 0 ∧ ps.getD 2 0 ≤ 23 ∧ 0 ≤ ps.getD 3 0 ∧ ps.getD 3 0 ≤ 600) ∧ ¬ (0 ≤ ps.getD 1 0 ∧ ps.getD 1 0 < G (G (zp_0 ps) 0).toNat 3) → rn = -2 ∧ G' (G (zp_0 ps) 0).toNat 9 = G (G (zp_0 ps) 0).toNat 9) ∧ ((0 ≤ ps.getD 2 0 ∧ ps.getD 2 0 ≤ 23 ∧ 0 ≤ ps.getD 3 0 ∧ ps.getD 3 0 ≤ 600) ∧ (0 ≤ ps.getD 1 0 ∧ ps.getD 1 0 < G (G (zp_0 ps) 0).toNat 3) ∧ 8 ≤ G (G (zp_0 ps) 0).toNat 9 → rn = -5 ∧ G' (G (zp_0 ps) 0).toNat 9 = G (G (zp_0 ps) 0).toNat 9) ∧ ((0 ≤ ps.getD 2 0 ∧ ps.getD 2 0 ≤ 23 ∧ 0 ≤ ps.getD 3 0 ∧ ps.getD 3 0 ≤ 600) ∧ (0 ≤ ps.getD 1 0 ∧ ps.getD 1 0 < G (G (zp_0 ps) 0).toNat 3) ∧ G (G (zp_0 ps) 0).toNat 9 < 8 → rn = G (G (zp_0 ps) 0).toNat 9 + 1 ∧ G' (G (zp_0 ps) 0).toNat 9 = G (G (zp_0 ps) 0).toNat 9 + 1)
theorem zX_sgs {l : Launch} {w : zk_W} (hW : zh_W w) : zk_metX l w zt_dv zt_TB zK_sgs (zp_A zp_tA) (zp_B zψ_sgs) ∧ zk_cok w zt_TB zK_sgs := by
  refine zp_methX (cn := "WoundTown") zp_lkallW hW (pl := 1203) rfl (by decide +kernel) (fun p e R s m args below meth c Q u hx hb hE hQ hU5 heff hnL hok hφ => ?_)
  have hw := hW.1
  obtain ⟨p0, p1, p2, p3, hps, k0, k1, k2, k3⟩ := zp_ps4 hok
  obtain ⟨a, rfl, hp⟩ := zp_this k0
  have hrm : zk_Kr (zk_ev (zt_types, zp_lkW, zt_dv, [], [], zp_lcW, zK_sgs)) = zk_Kr zK_sgs := rfl
  rw [hps] at hφ ⊢
  have hi1 := zp_int k1
  have hi2 := zp_int k2
  have hi3 := zp_int k3
  show zp_J p l e R s m args below meth c Q w u [] 0 [(0, 2, (a : Int)), (1, 0, p1), (2, 0, p2), (3, 0, p3)] [] u.1 (zp_n u.2.1)
  refine zp_kn (k := 0) (a := a) hw (show zp_fd 12 0 = some (11, 2, 10, 0, 0) from rfl) rfl hp (fun hktn => ?_)
  obtain ⟨tn, htn, qtn⟩ := zp_this hktn
  refine zp_kn (k := 3) (a := tn) hw (show zp_fd 10 3 = some (9, 0, 0, 0, 10) from rfl) rfl qtn (fun hkwk => ?_)
  obtain ⟨wk, hwk⟩ : ∃ z0 : Int, (zp_n u.2.1) tn 3 = z0 := ⟨_, rfl⟩
  have hwkb := zp_int hkwk
  rw [hwk] at hwkb
  refine zp_kn (k := 9) (a := tn) hw (show zp_fd 10 9 = some (9, 0, 0, 0, 8) from rfl) rfl qtn (fun hksg => ?_)
  obtain ⟨sg, hsg⟩ : ∃ z0 : Int, (zp_n u.2.1) tn 9 = z0 := ⟨_, rfl⟩
  have hsgb := zp_int hksg
  rw [hsg] at hsgb
  have htt : (zp_n u.2.1 a 0).toNat = tn := by rw [htn, Int.toNat_natCast]
  refine zp_load (pc := 0) hx hb (zd_X11_sight (0, .iload_n 2, 1, 0, []) (List.mem_of_getElem? (i := 0) rfl)) rfl (j := 2) rfl ?_
  refine zp_const (pc := 1) hx hb (zd_X11_sight (1, .iconst 0, 1, 0, []) (List.mem_of_getElem? (i := 1) rfl)) rfl rfl ?_
  refine zp_const (pc := 2) hx hb (zd_X11_sight (2, .bipush 23, 2, 0, []) (List.mem_of_getElem? (i := 2) rfl)) rfl rfl ?_
  refine zp_call (pc := 4) (how := 1) (idx := 107) (mi := 15) (S := []) hx hb hE hw heff hrm (zX_iwn hW) rfl (j := 10) rfl rfl (by decide +kernel) (zd_X11_sight (4, .invokestatic 107, 3, 0, []) (List.mem_of_getElem? (i := 3) rfl)) [p2, 0, 23] rfl ⟨zp_o0 (by omega) (by omega) (by omega) (by omega), zp_o0 (by omega) (by omega) (by omega) (by omega), zp_o0 (by omega) (by omega) (by omega) (by omega), trivial⟩ (Nat.le_of_ble_eq_true rfl) trivial (fun al hal rnw27 Pw27 Gw27 hextw27 hfrw27 hokw27 hcsw27 hpsiw27 => ?_)
  obtain rfl := List.mem_singleton.mp hal
  have hrw27 := zp_int (hokw27 _ rfl).1
  obtain ⟨hPew27, hGew27, htw27⟩ := hpsiw27
  have htw27 : rnw27 = 1 ↔ 0 ≤ p2 ∧ p2 ≤ 23 := htw27
  rw [hPew27, hGew27]
  refine zp_if (pc := 7) (tgt := 21) hx hb (zd_X11_sight (7, .ifCond .eq 14, 3, 0, []) (List.mem_of_getElem? (i := 4) rfl)) rfl (fun (hc43 : rnw27 = 0) => ?_) (fun (hc43 : ¬ (rnw27 = 0)) => ?_)
  · refine zp_load (pc := 21) hx hb (zd_X11_sight (21, .aload_n 0, 1, 0, []) (List.mem_of_getElem? (i := 10) rfl)) rfl (j := 0) rfl ?_
    refine zp_const (pc := 22) hx hb (zd_X11_sight (22, .iconst (-1), 1, 0, []) (List.mem_of_getElem? (i := 11) rfl)) rfl rfl ?_
    refine zp_call (pc := 23) (how := 0) (idx := 111) (mi := 16) (S := []) hx hb hE hw heff hrm (zX_rfd hW) rfl (j := 11) rfl rfl (by decide +kernel) (zd_X11_sight (23, .invokevirtual 111, 3, 0, []) (List.mem_of_getElem? (i := 12) rfl)) [(a : Int), (-1)] rfl ⟨zp_o2 hp, zp_o0 (by decide) (by decide) (by decide) (by decide), trivial⟩ (Nat.le_of_ble_eq_true rfl) trivial (fun al hal rnr28 Pr28 Gr28 hextr28 hfrr28 hokr28 hcsr28 hpsir28 => ?_)
    obtain rfl := List.mem_singleton.mp hal
    have hrr28 := zp_int (hokr28 _ rfl).1
    have yar28 := hextr28 _ _ hp
    have ytnr28 := hextr28 _ _ qtn
    have htr28 : rnr28 = (-1) := hpsir28
    have ez0 : Gr28 tn 9 = sg := ((zp_nf hfrr28 qtn rfl).trans hsg)
    refine zp_iret (pc := 26) (n := rnr28) hx hb hE hQ hU5 rfl (by decide) (zd_X11_sight (26, .ireturn, 1, 0, []) (List.mem_of_getElem? (i := 13) rfl)) (j := 0) rfl (zp_o0 (by omega) (by omega) (by omega) (by omega)) ?_
    rw [hps]
    show (¬ (0 ≤ p2 ∧ p2 ≤ 23 ∧ 0 ≤ p3 ∧ p3 ≤ 600) → rnr28 = -1 ∧ Gr28 (zp_n u.2.1 a 0).toNat 9 = zp_n u.2.1 (zp_n u.2.1 a 0).toNat 9) ∧ ((0 ≤ p2 ∧ p2 ≤ 23 ∧ 0 ≤ p3 ∧ p3 ≤ 600) ∧ ¬ (0 ≤ p1 ∧ p1 < zp_n u.2.1 (zp_n u.2.1 a 0).toNat 3) → rnr28 = -2 ∧ Gr28 (zp_n u.2.1 a 0).toNat 9 = zp_n u.2.1 (zp_n u.2.1 a 0).toNat 9) ∧ ((0 ≤ p2 ∧ p2 ≤ 23 ∧ 0 ≤ p3 ∧ p3 ≤ 600) ∧ (0 ≤ p1 ∧ p1 < zp_n u.2.1 (zp_n u.2.1 a 0).toNat 3) ∧ 8 ≤ zp_n u.2.1 (zp_n u.2.1 a 0).toNat 9 → rnr28 = -5 ∧ Gr28 (zp_n u.2.1 a 0).toNat 9 = zp_n u.2.1 (zp_n u.2.1 a 0).toNat 9) ∧ ((0 ≤ p2 ∧ p2 ≤ 23 ∧ 0 ≤ p3 ∧ p3 ≤ 600) ∧ (0 ≤ p1 ∧ p1 < zp_n u.2.1 (zp_n u.2.1 a 0).toNat 3) ∧ zp_n u.2.1 (zp_n u.2.1 a 0).toNat 9 < 8 → rnr28 = zp_n u.2.1 (zp_n u.2.1 a 0).toNat 9 + 1 ∧ Gr28 (zp_n u.2.1 a 0).toNat 9 = zp_n u.2.1 (zp_n u.2.1 a 0).toNat 9 + 1)
    rw [htt]
    omega
  · refine zp_load (pc := 10) hx hb (zd_X11_sight (10, .iload_n 3, 1, 0, []) (List.mem_of_getElem? (i := 5) rfl)) rfl (j := 3) rfl ?_
    refine zp_const (pc := 11) hx hb (zd_X11_sight (11, .iconst 0, 1, 0, []) (List.mem_of_getElem? (i := 6) rfl)) rfl rfl ?_
    refine zp_const (pc := 12) hx hb (zd_X11_sight (12, .sipush 600, 3, 0, []) (List.mem_of_getElem? (i := 7) rfl)) rfl rfl ?_
    refine zp_call (pc := 15) (how := 1) (idx := 107) (mi := 15) (S := []) hx hb hE hw heff hrm (zX_iwn hW) rfl (j := 10) rfl rfl (by decide +kernel) (zd_X11_sight (15, .invokestatic 107, 3, 0, []) (List.mem_of_getElem? (i := 8) rfl)) [p3, 0, 600] rfl ⟨zp_o0 (by omega) (by omega) (by omega) (by omega), zp_o0 (by omega) (by omega) (by omega) (by omega), zp_o0 (by omega) (by omega) (by omega) (by omega), trivial⟩ (Nat.le_of_ble_eq_true rfl) trivial (fun al hal rnw29 Pw29 Gw29 hextw29 hfrw29 hokw29 hcsw29 hpsiw29 => ?_)
    obtain rfl := List.mem_singleton.mp hal
    have hrw29 := zp_int (hokw29 _ rfl).1
    obtain ⟨hPew29, hGew29, htw29⟩ := hpsiw29
    have htw29 : rnw29 = 1 ↔ 0 ≤ p3 ∧ p3 ≤ 600 := htw29
    rw [hPew29, hGew29]
    refine zp_if (pc := 18) (tgt := 27) hx hb (zd_X11_sight (18, .ifCond .ne 9, 3, 0, []) (List.mem_of_getElem? (i := 9) rfl)) rfl (fun (hc44 : ¬ rnw29 = 0) => ?_) (fun (hc44 : ¬ (¬ rnw29 = 0)) => ?_)
    · refine zp_load (pc := 27) hx hb (zd_X11_sight (27, .aload_n 0, 1, 0, []) (List.mem_of_getElem? (i := 14) rfl)) rfl (j := 0) rfl ?_
      refine zp_getf (n := (tn : Int)) (pc := 28) hx hb hE hw (zd_X11_sight (28, .getfield 10, 3, 0, []) (List.mem_of_getElem? (i := 15) rfl)) (j := 50) rfl rfl rfl hp htn ?_
      refine zp_load (pc := 31) hx hb (zd_X11_sight (31, .iload_n 1, 1, 0, []) (List.mem_of_getElem? (i := 16) rfl)) rfl (j := 1) rfl ?_
      have hvh30 : (zp_n u.2.1) tn 3 = wk := hwk
      refine zp_call (pc := 32) (how := 0) (idx := 150) (mi := 26) (S := []) hx hb hE hw heff hrm (zX_hwk hW) rfl (j := 17) rfl rfl (by decide +kernel) (zd_X11_sight (32, .invokevirtual 150, 3, 0, []) (List.mem_of_getElem? (i := 17) rfl)) [(tn : Int), p1] rfl ⟨zp_o2 qtn, zp_o0 (by omega) (by omega) (by omega) (by omega), trivial⟩ (Nat.le_of_ble_eq_true rfl) trivial (fun al hal rnh30 Ph30 Gh30 hexth30 hfrh30 hokh30 hcsh30 hpsih30 => ?_)
      obtain rfl := List.mem_singleton.mp hal
      have hrh30 := zp_int (hokh30 _ rfl).1
      obtain ⟨hPeh30, hGeh30, hth30⟩ := hpsih30
      have hth30 : rnh30 = 1 ↔ 0 ≤ p1 ∧ p1 < (zp_n u.2.1) tn 3 := hth30
      rw [hPeh30, hGeh30]
      rw [hvh30] at hth30
      refine zp_if (pc := 35) (tgt := 45) hx hb (zd_X11_sight (35, .ifCond .ne 10, 3, 0, []) (List.mem_of_getElem? (i := 18) rfl)) rfl (fun (hc45 : ¬ rnh30 = 0) => ?_) (fun (hc45 : ¬ (¬ rnh30 = 0)) => ?_)
      · refine zp_load (pc := 45) hx hb (zd_X11_sight (45, .aload_n 0, 1, 0, []) (List.mem_of_getElem? (i := 23) rfl)) rfl (j := 0) rfl ?_
        refine zp_getf (n := (tn : Int)) (pc := 46) hx hb hE hw (zd_X11_sight (46, .getfield 10, 3, 0, []) (List.mem_of_getElem? (i := 24) rfl)) (j := 50) rfl rfl rfl hp htn ?_
        refine zp_getf (n := sg) (pc := 49) hx hb hE hw (zd_X11_sight (49, .getfield 396, 3, 0, []) (List.mem_of_getElem? (i := 25) rfl)) (j := 18) rfl rfl rfl qtn hsg ?_
        refine zp_const (pc := 52) hx hb (zd_X11_sight (52, .bipush 8, 2, 0, []) (List.mem_of_getElem? (i := 26) rfl)) rfl rfl ?_
        refine zp_icmp (pc := 54) (tgt := 64) hx hb (zd_X11_sight (54, .if_icmp .lt 10, 3, 0, []) (List.mem_of_getElem? (i := 27) rfl)) rfl (fun (hc46 : sg < 8) => ?_) (fun (hc46 : ¬ (sg < 8)) => ?_)
        · refine zp_load (pc := 64) hx hb (zd_X11_sight (64, .aload_n 0, 1, 0, []) (List.mem_of_getElem? (i := 32) rfl)) rfl (j := 0) rfl ?_
          refine zp_getf (n := (tn : Int)) (pc := 65) hx hb hE hw (zd_X11_sight (65, .getfield 10, 3, 0, []) (List.mem_of_getElem? (i := 33) rfl)) (j := 50) rfl rfl rfl hp htn ?_
          refine zp_load (pc := 68) hx hb (zd_X11_sight (68, .iload_n 1, 1, 0, []) (List.mem_of_getElem? (i := 34) rfl)) rfl (j := 1) rfl ?_
          refine zp_load (pc := 69) hx hb (zd_X11_sight (69, .iload_n 2, 1, 0, []) (List.mem_of_getElem? (i := 35) rfl)) rfl (j := 2) rfl ?_
          refine zp_load (pc := 70) hx hb (zd_X11_sight (70, .iload_n 3, 1, 0, []) (List.mem_of_getElem? (i := 36) rfl)) rfl (j := 3) rfl ?_
          have qd31 : (zp_n u.2.1) tn 9 = sg := hsg
          refine zp_call (pc := 71) (how := 0) (idx := 399) (mi := 152) (S := []) hx hb hE hw heff hrm (zX_asg hW) rfl (j := 56) rfl rfl (by decide +kernel) (zd_X11_sight (71, .invokevirtual 399, 3, 0, []) (List.mem_of_getElem? (i := 37) rfl)) [(tn : Int), p1, p2, p3] rfl ⟨zp_o2 qtn, zp_o0 (by omega) (by omega) (by omega) (by omega), zp_o0 (by omega) (by omega) (by omega) (by omega), zp_o0 (by omega) (by omega) (by omega) (by omega), trivial⟩ (Nat.le_of_ble_eq_true rfl) (show (zp_n u.2.1) tn 9 < 8 by omega) (fun al hal rnd31 Pd31 Gd31 hextd31 hfrd31 hokd31 hcsd31 hpsid31 => ?_)
          obtain rfl := List.mem_singleton.mp hal
          have yad31 := hextd31 _ _ hp
          have ytnd31 := hextd31 _ _ qtn
          obtain ⟨hP9d31, htd31⟩ := hpsid31
          have hvd31 : Gd31 tn 9 = (zp_n u.2.1) tn 9 + 1 := htd31
          have hzd31 : Gd31 tn 9 = sg + 1 := by omega
          have hzbd31 : 0 ≤ sg := by omega
          refine zp_load (pc := 74) hx hb (zd_X11_sight (74, .aload_n 0, 1, 0, []) (List.mem_of_getElem? (i := 38) rfl)) rfl (j := 0) rfl ?_
          refine zp_load (pc := 75) hx hb (zd_X11_sight (75, .aload_n 0, 1, 0, []) (List.mem_of_getElem? (i := 39) rfl)) rfl (j := 0) rfl ?_
          refine zp_getf (n := (tn : Int)) (pc := 76) hx hb hE hw (zd_X11_sight (76, .getfield 10, 3, 0, []) (List.mem_of_getElem? (i := 40) rfl)) (j := 50) rfl rfl rfl yad31 ((zp_nf hfrd31 hp rfl).trans htn) ?_
          refine zp_getf (n := (sg + 1)) (pc := 79) hx hb hE hw (zd_X11_sight (79, .getfield 396, 3, 0, []) (List.mem_of_getElem? (i := 41) rfl)) (j := 18) rfl rfl rfl ytnd31 hzd31 ?_
          refine zp_call (pc := 82) (how := 0) (idx := 118) (mi := 17) (S := []) hx hb hE hw heff hrm (zX_awd hW) rfl (j := 12) rfl rfl (by decide +kernel) (zd_X11_sight (82, .invokevirtual 118, 3, 0, []) (List.mem_of_getElem? (i := 42) rfl)) [(a : Int), (sg + 1)] rfl ⟨zp_o2 yad31, zp_o0 (by omega) (by omega) (by omega) (by omega), trivial⟩ (Nat.le_of_ble_eq_true rfl) trivial (fun al hal rns32 Ps32 Gs32 hexts32 hfrs32 hoks32 hcss32 hpsis32 => ?_)
          obtain rfl := List.mem_singleton.mp hal
          have hrs32 := zp_int (hoks32 _ rfl).1
          have yas32 := hexts32 _ _ yad31
          have ytns32 := hexts32 _ _ ytnd31
          have hts32 : rns32 = (sg + 1) := hpsis32
          have ez0 : Gs32 tn 9 = (sg + 1) := ((zp_nf hfrs32 ytnd31 rfl).trans hzd31)
          refine zp_iret (pc := 85) (n := rns32) hx hb hE hQ hU5 rfl (by decide) (zd_X11_sight (85, .ireturn, 1, 0, []) (List.mem_of_getElem? (i := 43) rfl)) (j := 0) rfl (zp_o0 (by omega) (by omega) (by omega) (by omega)) ?_
          rw [hps]
          show (¬ (0 ≤ p2 ∧ p2 ≤ 23 ∧ 0 ≤ p3 ∧ p3 ≤ 600) → rns32 = -1 ∧ Gs32 (zp_n u.2.1 a 0).toNat 9 = zp_n u.2.1 (zp_n u.2.1 a 0).toNat 9) ∧ ((0 ≤ p2 ∧ p2 ≤ 23 ∧ 0 ≤ p3 ∧ p3 ≤ 600) ∧ ¬ (0 ≤ p1 ∧ p1 < zp_n u.2.1 (zp_n u.2.1 a 0).toNat 3) → rns32 = -2 ∧ Gs32 (zp_n u.2.1 a 0).toNat 9 = zp_n u.2.1 (zp_n u.2.1 a 0).toNat 9) ∧ ((0 ≤ p2 ∧ p2 ≤ 23 ∧ 0 ≤ p3 ∧ p3 ≤ 600) ∧ (0 ≤ p1 ∧ p1 < zp_n u.2.1 (zp_n u.2.1 a 0).toNat 3) ∧ 8 ≤ zp_n u.2.1 (zp_n u.2.1 a 0).toNat 9 → rns32 = -5 ∧ Gs32 (zp_n u.2.1 a 0).toNat 9 = zp_n u.2.1 (zp_n u.2.1 a 0).toNat 9) ∧ ((0 ≤ p2 ∧ p2 ≤ 23 ∧ 0 ≤ p3 ∧ p3 ≤ 600) ∧ (0 ≤ p1 ∧ p1 < zp_n u.2.1 (zp_n u.2.1 a 0).toNat 3) ∧ zp_n u.2.1 (zp_n u.2.1 a 0).toNat 9 < 8 → rns32 = zp_n u.2.1 (zp_n u.2.1 a 0).toNat 9 + 1 ∧ Gs32 (zp_n u.2.1 a 0).toNat 9 = zp_n u.2.1 (zp_n u.2.1 a 0).toNat 9 + 1)
          rw [htt]
          omega
        · refine zp_load (pc := 57) hx hb (zd_X11_sight (57, .aload_n 0, 1, 0, []) (List.mem_of_getElem? (i := 28) rfl)) rfl (j := 0) rfl ?_
          refine zp_const (pc := 58) hx hb (zd_X11_sight (58, .bipush (-5), 2, 0, []) (List.mem_of_getElem? (i := 29) rfl)) rfl rfl ?_
          refine zp_call (pc := 60) (how := 0) (idx := 111) (mi := 16) (S := []) hx hb hE hw heff hrm (zX_rfd hW) rfl (j := 11) rfl rfl (by decide +kernel) (zd_X11_sight (60, .invokevirtual 111, 3, 0, []) (List.mem_of_getElem? (i := 30) rfl)) [(a : Int), (-5)] rfl ⟨zp_o2 hp, zp_o0 (by decide) (by decide) (by decide) (by decide), trivial⟩ (Nat.le_of_ble_eq_true rfl) trivial (fun al hal rnr33 Pr33 Gr33 hextr33 hfrr33 hokr33 hcsr33 hpsir33 => ?_)
          obtain rfl := List.mem_singleton.mp hal
          have hrr33 := zp_int (hokr33 _ rfl).1
          have yar33 := hextr33 _ _ hp
          have ytnr33 := hextr33 _ _ qtn
          have htr33 : rnr33 = (-5) := hpsir33
          have ez0 : Gr33 tn 9 = sg := ((zp_nf hfrr33 qtn rfl).trans hsg)
          refine zp_iret (pc := 63) (n := rnr33) hx hb hE hQ hU5 rfl (by decide) (zd_X11_sight (63, .ireturn, 1, 0, []) (List.mem_of_getElem? (i := 31) rfl)) (j := 0) rfl (zp_o0 (by omega) (by omega) (by omega) (by omega)) ?_
          rw [hps]
          show (¬ (0 ≤ p2 ∧ p2 ≤ 23 ∧ 0 ≤ p3 ∧ p3 ≤ 600) → rnr33 = -1 ∧ Gr33 (zp_n u.2.1 a 0).toNat 9 = zp_n u.2.1 (zp_n u.2.1 a 0).toNat 9) ∧ ((0 ≤ p2 ∧ p2 ≤ 23 ∧ 0 ≤ p3 ∧ p3 ≤ 600) ∧ ¬ (0 ≤ p1 ∧ p1 < zp_n u.2.1 (zp_n u.2.1 a 0).toNat 3) → rnr33 = -2 ∧ Gr33 (zp_n u.2.1 a 0).toNat 9 = zp_n u.2.1 (zp_n u.2.1 a 0).toNat 9) ∧ ((0 ≤ p2 ∧ p2 ≤ 23 ∧ 0 ≤ p3 ∧ p3 ≤ 600) ∧ (0 ≤ p1 ∧ p1 < zp_n u.2.1 (zp_n u.2.1 a 0).toNat 3) ∧ 8 ≤ zp_n u.2.1 (zp_n u.2.1 a 0).toNat 9 → rnr33 = -5 ∧ Gr33 (zp_n u.2.1 a 0).toNat 9 = zp_n u.2.1 (zp_n u.2.1 a 0).toNat 9) ∧ ((0 ≤ p2 ∧ p2 ≤ 23 ∧ 0 ≤ p3 ∧ p3 ≤ 600) ∧ (0 ≤ p1 ∧ p1 < zp_n u.2.1 (zp_n u.2.1 a 0).toNat 3) ∧ zp_n u.2.1 (zp_n u.2.1 a 0).toNat 9 < 8 → rnr33 = zp_n u.2.1 (zp_n u.2.1 a 0).toNat 9 + 1 ∧ Gr33 (zp_n u.2.1 a 0).toNat 9 = zp_n u.2.1 (zp_n u.2.1 a 0).toNat 9 + 1)
          rw [htt]
          omega
      · refine zp_load (pc := 38) hx hb (zd_X11_sight (38, .aload_n 0, 1, 0, []) (List.mem_of_getElem? (i := 19) rfl)) rfl (j := 0) rfl ?_
        refine zp_const (pc := 39) hx hb (zd_X11_sight (39, .bipush (-2), 2, 0, []) (List.mem_of_getElem? (i := 20) rfl)) rfl rfl ?_
        refine zp_call (pc := 41) (how := 0) (idx := 111) (mi := 16) (S := []) hx hb hE hw heff hrm (zX_rfd hW) rfl (j := 11) rfl rfl (by decide +kernel) (zd_X11_sight (41, .invokevirtual 111, 3, 0, []) (List.mem_of_getElem? (i := 21) rfl)) [(a : Int), (-2)] rfl ⟨zp_o2 hp, zp_o0 (by decide) (by decide) (by decide) (by decide), trivial⟩ (Nat.le_of_ble_eq_true rfl) trivial (fun al hal rnr34 Pr34 Gr34 hextr34 hfrr34 hokr34 hcsr34 hpsir34 => ?_)
        obtain rfl := List.mem_singleton.mp hal
        have hrr34 := zp_int (hokr34 _ rfl).1
        have yar34 := hextr34 _ _ hp
        have ytnr34 := hextr34 _ _ qtn
        have htr34 : rnr34 = (-2) := hpsir34
        have ez0 : Gr34 tn 9 = sg := ((zp_nf hfrr34 qtn rfl).trans hsg)
        refine zp_iret (pc := 44) (n := rnr34) hx hb hE hQ hU5 rfl (by decide) (zd_X11_sight (44, .ireturn, 1, 0, []) (List.mem_of_getElem? (i := 22) rfl)) (j := 0) rfl (zp_o0 (by omega) (by omega) (by omega) (by omega)) ?_
        rw [hps]
        show (¬ (0 ≤ p2 ∧ p2 ≤ 23 ∧ 0 ≤ p3 ∧ p3 ≤ 600) → rnr34 = -1 ∧ Gr34 (zp_n u.2.1 a 0).toNat 9 = zp_n u.2.1 (zp_n u.2.1 a 0).toNat 9) ∧ ((0 ≤ p2 ∧ p2 ≤ 23 ∧ 0 ≤ p3 ∧ p3 ≤ 600) ∧ ¬ (0 ≤ p1 ∧ p1 < zp_n u.2.1 (zp_n u.2.1 a 0).toNat 3) → rnr34 = -2 ∧ Gr34 (zp_n u.2.1 a 0).toNat 9 = zp_n u.2.1 (zp_n u.2.1 a 0).toNat 9) ∧ ((0 ≤ p2 ∧ p2 ≤ 23 ∧ 0 ≤ p3 ∧ p3 ≤ 600) ∧ (0 ≤ p1 ∧ p1 < zp_n u.2.1 (zp_n u.2.1 a 0).toNat 3) ∧ 8 ≤ zp_n u.2.1 (zp_n u.2.1 a 0).toNat 9 → rnr34 = -5 ∧ Gr34 (zp_n u.2.1 a 0).toNat 9 = zp_n u.2.1 (zp_n u.2.1 a 0).toNat 9) ∧ ((0 ≤ p2 ∧ p2 ≤ 23 ∧ 0 ≤ p3 ∧ p3 ≤ 600) ∧ (0 ≤ p1 ∧ p1 < zp_n u.2.1 (zp_n u.2.1 a 0).toNat 3) ∧ zp_n u.2.1 (zp_n u.2.1 a 0).toNat 9 < 8 → rnr34 = zp_n u.2.1 (zp_n u.2.1 a 0).toNat 9 + 1 ∧ Gr34 (zp_n u.2.1 a 0).toNat 9 = zp_n u.2.1 (zp_n u.2.1 a 0).toNat 9 + 1)
        rw [htt]
        omega
    · refine zp_load (pc := 21) hx hb (zd_X11_sight (21, .aload_n 0, 1, 0, []) (List.mem_of_getElem? (i := 10) rfl)) rfl (j := 0) rfl ?_
      refine zp_const (pc := 22) hx hb (zd_X11_sight (22, .iconst (-1), 1, 0, []) (List.mem_of_getElem? (i := 11) rfl)) rfl rfl ?_
      refine zp_call (pc := 23) (how := 0) (idx := 111) (mi := 16) (S := []) hx hb hE hw heff hrm (zX_rfd hW) rfl (j := 11) rfl rfl (by decide +kernel) (zd_X11_sight (23, .invokevirtual 111, 3, 0, []) (List.mem_of_getElem? (i := 12) rfl)) [(a : Int), (-1)] rfl ⟨zp_o2 hp, zp_o0 (by decide) (by decide) (by decide) (by decide), trivial⟩ (Nat.le_of_ble_eq_true rfl) trivial (fun al hal rnr35 Pr35 Gr35 hextr35 hfrr35 hokr35 hcsr35 hpsir35 => ?_)
      obtain rfl := List.mem_singleton.mp hal
      have hrr35 := zp_int (hokr35 _ rfl).1
      have yar35 := hextr35 _ _ hp
      have ytnr35 := hextr35 _ _ qtn
      have htr35 : rnr35 = (-1) := hpsir35
      have ez0 : Gr35 tn 9 = sg := ((zp_nf hfrr35 qtn rfl).trans hsg)
      refine zp_iret (pc := 26) (n := rnr35) hx hb hE hQ hU5 rfl (by decide) (zd_X11_sight (26, .ireturn, 1, 0, []) (List.mem_of_getElem? (i := 13) rfl)) (j := 0) rfl (zp_o0 (by omega) (by omega) (by omega) (by omega)) ?_
      rw [hps]
      show (¬ (0 ≤ p2 ∧ p2 ≤ 23 ∧ 0 ≤ p3 ∧ p3 ≤ 600) → rnr35 = -1 ∧ Gr35 (zp_n u.2.1 a 0).toNat 9 = zp_n u.2.1 (zp_n u.2.1 a 0).toNat 9) ∧ ((0 ≤ p2 ∧ p2 ≤ 23 ∧ 0 ≤ p3 ∧ p3 ≤ 600) ∧ ¬ (0 ≤ p1 ∧ p1 < zp_n u.2.1 (zp_n u.2.1 a 0).toNat 3) → rnr35 = -2 ∧ Gr35 (zp_n u.2.1 a 0).toNat 9 = zp_n u.2.1 (zp_n u.2.1 a 0).toNat 9) ∧ ((0 ≤ p2 ∧ p2 ≤ 23 ∧ 0 ≤ p3 ∧ p3 ≤ 600) ∧ (0 ≤ p1 ∧ p1 < zp_n u.2.1 (zp_n u.2.1 a 0).toNat 3) ∧ 8 ≤ zp_n u.2.1 (zp_n u.2.1 a 0).toNat 9 → rnr35 = -5 ∧ Gr35 (zp_n u.2.1 a 0).toNat 9 = zp_n u.2.1 (zp_n u.2.1 a 0).toNat 9) ∧ ((0 ≤ p2 ∧ p2 ≤ 23 ∧ 0 ≤ p3 ∧ p3 ≤ 600) ∧ (0 ≤ p1 ∧ p1 < zp_n u.2.1 (zp_n u.2.1 a 0).toNat 3) ∧ zp_n u.2.1 (zp_n u.2.1 a 0).toNat 9 < 8 → rnr35 = zp_n u.2.1 (zp_n u.2.1 a 0).toNat 9 + 1 ∧ Gr35 (zp_n u.2.1 a 0).toNat 9 = zp_n u.2.1 (zp_n u.2.1 a 0).toNat 9 + 1)
      rw [htt]
      omega
def zK_fgs : zk_K := (zt_mn 153, prog_1_method_40_code, 2, (Option.some Jvm.ClassFile.FieldType.int), 1, 11, [(2, 12, 0, 0)], [(some (0, 0, 0, 8), [])], [(10, 9, 0)], (0, 0, 0, 0))
def zψ_fgs : (Nat → Option Nat) → (Nat → Nat → Int) → List Int → (Nat → Option Nat) → (Nat → Nat → Int) → Int → Prop := fun P G ps P' G' rn => P' = P ∧ rn = G (G (zp_0 ps) 0).toNat 9 ∧ G' (G (zp_0 ps) 0).toNat 9 = 0
theorem zX_fgs {l : Launch} {w : zk_W} (hW : zh_W w) : zk_metX l w zt_dv zt_TB zK_fgs (zp_A zp_tA) (zp_B zψ_fgs) ∧ zk_cok w zt_TB zK_fgs := by
  refine zp_methX (cn := "WoundTown") zp_lkallW hW (pl := 1211) rfl (by decide +kernel) (fun p e R s m args below meth c Q u hx hb hE hQ hU5 heff hnL hok hφ => ?_)
  have hw := hW.1
  obtain ⟨p0, hps, k0⟩ := zp_ps1 hok
  obtain ⟨a, rfl, hp⟩ := zp_this k0
  have hrm : zk_Kr (zk_ev (zt_types, zp_lkW, zt_dv, [], [], zp_lcW, zK_fgs)) = zk_Kr zK_fgs := rfl
  rw [hps] at hφ ⊢
  show zp_J p l e R s m args below meth c Q w u [] 0 [(0, 2, (a : Int))] [] u.1 (zp_n u.2.1)
  refine zp_kn (k := 0) (a := a) hw (show zp_fd 12 0 = some (11, 2, 10, 0, 0) from rfl) rfl hp (fun hktn => ?_)
  obtain ⟨tn, htn, qtn⟩ := zp_this hktn
  refine zp_kn (k := 9) (a := tn) hw (show zp_fd 10 9 = some (9, 0, 0, 0, 8) from rfl) rfl qtn (fun hksg => ?_)
  obtain ⟨sg, hsg⟩ : ∃ z0 : Int, (zp_n u.2.1) tn 9 = z0 := ⟨_, rfl⟩
  have hsgb := zp_int hksg
  rw [hsg] at hsgb
  have htt : (zp_n u.2.1 a 0).toNat = tn := by rw [htn, Int.toNat_natCast]
  refine zp_load (pc := 0) hx hb (zd_X11_forget (0, .aload_n 0, 1, 0, []) (List.mem_of_getElem? (i := 0) rfl)) rfl (j := 0) rfl ?_
  refine zp_getf (n := (tn : Int)) (pc := 1) hx hb hE hw (zd_X11_forget (1, .getfield 10, 3, 0, []) (List.mem_of_getElem? (i := 1) rfl)) (j := 50) rfl rfl rfl hp htn ?_
  refine zp_getf (n := sg) (pc := 4) hx hb hE hw (zd_X11_forget (4, .getfield 396, 3, 0, []) (List.mem_of_getElem? (i := 2) rfl)) (j := 18) rfl rfl rfl qtn hsg ?_
  refine zp_store (L' := [(1, 0, sg), (0, 2, (a : Int))]) (pc := 7) hx hb hnL (zd_X11_forget (7, .istore_n 1, 1, 0, []) (List.mem_of_getElem? (i := 3) rfl)) rfl rfl rfl ?_
  refine zp_load (pc := 8) hx hb (zd_X11_forget (8, .aload_n 0, 1, 0, []) (List.mem_of_getElem? (i := 4) rfl)) rfl (j := 1) rfl ?_
  refine zp_getf (n := (tn : Int)) (pc := 9) hx hb hE hw (zd_X11_forget (9, .getfield 10, 3, 0, []) (List.mem_of_getElem? (i := 5) rfl)) (j := 50) rfl rfl rfl hp htn ?_
  refine zp_const (pc := 12) hx hb (zd_X11_forget (12, .iconst 0, 1, 0, []) (List.mem_of_getElem? (i := 6) rfl)) rfl rfl ?_
  refine zp_putf (pc := 13) hx hb hE hw heff (zd_X11_forget (13, .putfield 396, 3, 0, []) (List.mem_of_getElem? (i := 7) rfl)) (j := 18) rfl rfl rfl qtn (zp_o0 (by decide) (by decide) (by decide) (by decide)) ?_
  refine zp_load (pc := 16) hx hb (zd_X11_forget (16, .iload_n 1, 1, 0, []) (List.mem_of_getElem? (i := 8) rfl)) rfl (j := 0) rfl ?_
  have ez0 : (zp_set (zp_n u.2.1) tn 9 0) tn 9 = 0 := zp_set_self
  refine zp_iret (pc := 17) (n := sg) hx hb hE hQ hU5 rfl (by decide) (zd_X11_forget (17, .ireturn, 1, 0, []) (List.mem_of_getElem? (i := 9) rfl)) (j := 0) rfl (zp_o0 (by omega) (by omega) (by omega) (by omega)) ?_
  rw [hps]
  refine ⟨rfl, ?_⟩
  show sg = zp_n u.2.1 (zp_n u.2.1 a 0).toNat 9 ∧ (zp_set (zp_n u.2.1) tn 9 0) (zp_n u.2.1 a 0).toNat 9 = 0
  rw [htt]
  omega
def zK_dus : zk_K := (zt_mn 38, prog_1_method_13_code, 1, (Option.some Jvm.ClassFile.FieldType.int), 1, 11, [(2, 12, 0, 0)], [(some (0, 0, (-2147483648), 2147483647), [])], [], (0, 0, 0, 0))
def zψ_dus : (Nat → Option Nat) → (Nat → Nat → Int) → List Int → (Nat → Option Nat) → (Nat → Nat → Int) → Int → Prop := fun P G ps P' G' rn => P' = P ∧ rn = G (zp_0 ps) 17
theorem zX_dus {l : Launch} {w : zk_W} (hW : zh_W w) : zk_metX l w zt_dv zt_TB zK_dus (zp_A zp_tA) (zp_B zψ_dus) ∧ zk_cok w zt_TB zK_dus := by
  refine zp_methX (cn := "WoundTown") zp_lkallW hW (pl := 700) rfl (by decide +kernel) (fun p e R s m args below meth c Q u hx hb hE hQ hU5 heff hnL hok hφ => ?_)
  have hw := hW.1
  obtain ⟨p0, hps, k0⟩ := zp_ps1 hok
  obtain ⟨a, rfl, hp⟩ := zp_this k0
  have hrm : zk_Kr (zk_ev (zt_types, zp_lkW, zt_dv, [], [], zp_lcW, zK_dus)) = zk_Kr zK_dus := rfl
  rw [hps] at hφ ⊢
  show zp_J p l e R s m args below meth c Q w u [] 0 [(0, 2, (a : Int))] [] u.1 (zp_n u.2.1)
  refine zp_kn (k := 17) (a := a) hw (show zp_fd 12 17 = some (11, 0, 0, (-2147483648), 2147483647) from rfl) rfl hp (fun hkdu => ?_)
  obtain ⟨du, hdu⟩ : ∃ z0 : Int, (zp_n u.2.1) a 17 = z0 := ⟨_, rfl⟩
  have hdub := zp_int hkdu
  rw [hdu] at hdub
  refine zp_load (pc := 0) hx hb (zd_X11_dust (0, .aload_n 0, 1, 0, []) (List.mem_of_getElem? (i := 0) rfl)) rfl (j := 0) rfl ?_
  refine zp_getf (n := du) (pc := 1) hx hb hE hw (zd_X11_dust (1, .getfield 196, 3, 0, []) (List.mem_of_getElem? (i := 1) rfl)) (j := 67) rfl rfl rfl hp hdu ?_
  refine zp_iret (pc := 4) (n := du) hx hb hE hQ hU5 rfl (by decide) (zd_X11_dust (4, .ireturn, 1, 0, []) (List.mem_of_getElem? (i := 2) rfl)) (j := 0) rfl (zp_o0 (by omega) (by omega) (by omega) (by omega)) ?_
  rw [hps]
  refine ⟨rfl, ?_⟩
  show du = zp_n u.2.1 a 17
  omega
def zK_bya : zk_K := (zt_mn 37, prog_9_method_4_code, 2, (Option.some Jvm.ClassFile.FieldType.int), 1, 7, [(2, 7, 0, 0), (0, 0, 0, 1000)], [(some (0, 0, (-2147483648), 2147483647), [])], [], (0, 0, 0, 0))
def zψ_bya : (Nat → Option Nat) → (Nat → Nat → Int) → List Int → (Nat → Option Nat) → (Nat → Nat → Int) → Int → Prop := fun P G ps P' G' rn => P' = P ∧ G' = G ∧ ∀ i : Nat, ps.getD 1 0 = (i : Int) → ((i : Int) < G (zp_0 ps) 1 → rn = G (G (zp_0 ps) 0).toNat (2000 + i)) ∧ (¬ ((i : Int) < G (zp_0 ps) 1) → rn = -1)
theorem zX_bya {l : Launch} {w : zk_W} (hW : zh_W w) : zk_metX l w zt_dv zt_TB zK_bya (zp_A zp_tA) (zp_B zψ_bya) ∧ zk_cok w zt_TB zK_bya := by
  refine zp_methX (cn := "WoundTown$Tape") zp_lkallT hW (pl := 696) rfl (by decide +kernel) (fun p e R s m args below meth c Q u hx hb hE hQ hU5 heff hnL hok hφ => ?_)
  have hw := hW.1
  obtain ⟨p0, p1, hps, k0, k1⟩ := zp_ps2 hok
  obtain ⟨a, rfl, hp⟩ := zp_this k0
  have hrm : zk_Kr (zk_ev (zt_types, zp_lkT, zt_dv, [], [], zp_lcT, zK_bya)) = zk_Kr zK_bya := rfl
  rw [hps] at hφ ⊢
  have hi1 := zp_int k1
  show zp_J p l e R s m args below meth c Q w u [] 0 [(0, 2, (a : Int)), (1, 0, p1)] [] u.1 (zp_n u.2.1)
  refine zp_kn (k := 0) (a := a) hw (show zp_fd 7 0 = some (7, 2, 29, 0, 0) from rfl) rfl hp (fun hktb => ?_)
  obtain ⟨tb, htb, qtb⟩ := zp_this hktb
  refine zp_kn (k := 1) (a := a) hw (show zp_fd 7 1 = some (7, 0, 0, 0, 400) from rfl) rfl hp (fun hkln => ?_)
  obtain ⟨ln, hln⟩ := zp_nat (zp_int hkln).1
  have hlnb := zp_int hkln
  rw [hln] at hlnb
  obtain ⟨i1, rfl⟩ := zp_nat hi1.1
  have htt : (zp_n u.2.1 a 0).toNat = tb := by rw [htb, Int.toNat_natCast]
  show zp_J p l e R s m args below meth c Q w u [] 0 [(0, 2, (a : Int)), (1, 0, (i1 : Int))] [] u.1 (zp_n u.2.1)
  refine zp_load (pc := 0) hx hb (zd_X7_byteAt (0, .iload_n 1, 1, 0, []) (List.mem_of_getElem? (i := 0) rfl)) rfl (j := 1) rfl ?_
  refine zp_if (pc := 1) (tgt := 28) hx hb (zd_X7_byteAt (1, .ifCond .lt 27, 3, 0, []) (List.mem_of_getElem? (i := 1) rfl)) rfl (fun (hc47 : (i1 : Int) < 0) => ?_) (fun (hc47 : ¬ ((i1 : Int) < 0)) => ?_)
  · refine zp_const (pc := 28) hx hb (zd_X7_byteAt (28, .iconst (-1), 1, 0, []) (List.mem_of_getElem? (i := 14) rfl)) rfl rfl ?_
    refine zp_iret (pc := 29) (n := (-1)) hx hb hE hQ hU5 rfl (by decide) (zd_X7_byteAt (29, .ireturn, 1, 0, []) (List.mem_of_getElem? (i := 15) rfl)) (j := 0) rfl (zp_o0 (by omega) (by omega) (by omega) (by omega)) ?_
    rw [hps]
    refine ⟨rfl, rfl, fun i hi => ?_⟩
    have hi : (i1 : Int) = (i : Int) := hi
    obtain rfl : i = i1 := by omega
    show ((i : Int) < zp_n u.2.1 a 1 → (-1) = zp_n u.2.1 (zp_n u.2.1 a 0).toNat (2000 + i)) ∧ (¬ ((i : Int) < zp_n u.2.1 a 1) → (-1) = -1)
    rw [htt]
    omega
  · refine zp_load (pc := 4) hx hb (zd_X7_byteAt (4, .iload_n 1, 1, 0, []) (List.mem_of_getElem? (i := 2) rfl)) rfl (j := 1) rfl ?_
    refine zp_load (pc := 5) hx hb (zd_X7_byteAt (5, .aload_n 0, 1, 0, []) (List.mem_of_getElem? (i := 3) rfl)) rfl (j := 0) rfl ?_
    refine zp_getf (n := (ln : Int)) (pc := 6) hx hb hE hw (zd_X7_byteAt (6, .getfield 15, 3, 0, []) (List.mem_of_getElem? (i := 4) rfl)) (j := 2) rfl rfl rfl hp hln ?_
    refine zp_icmp (pc := 9) (tgt := 28) hx hb (zd_X7_byteAt (9, .if_icmp .ge 19, 3, 0, []) (List.mem_of_getElem? (i := 5) rfl)) rfl (fun (hc48 : (ln : Int) ≤ (i1 : Int)) => ?_) (fun (hc48 : ¬ ((ln : Int) ≤ (i1 : Int))) => ?_)
    · refine zp_const (pc := 28) hx hb (zd_X7_byteAt (28, .iconst (-1), 1, 0, []) (List.mem_of_getElem? (i := 14) rfl)) rfl rfl ?_
      refine zp_iret (pc := 29) (n := (-1)) hx hb hE hQ hU5 rfl (by decide) (zd_X7_byteAt (29, .ireturn, 1, 0, []) (List.mem_of_getElem? (i := 15) rfl)) (j := 0) rfl (zp_o0 (by omega) (by omega) (by omega) (by omega)) ?_
      rw [hps]
      refine ⟨rfl, rfl, fun i hi => ?_⟩
      have hi : (i1 : Int) = (i : Int) := hi
      obtain rfl : i = i1 := by omega
      show ((i : Int) < zp_n u.2.1 a 1 → (-1) = zp_n u.2.1 (zp_n u.2.1 a 0).toNat (2000 + i)) ∧ (¬ ((i : Int) < zp_n u.2.1 a 1) → (-1) = -1)
      rw [htt]
      omega
    · refine zp_load (pc := 12) hx hb (zd_X7_byteAt (12, .iload_n 1, 1, 0, []) (List.mem_of_getElem? (i := 6) rfl)) rfl (j := 1) rfl ?_
      refine zp_const (pc := 13) hx hb (zd_X7_byteAt (13, .sipush 400, 3, 0, []) (List.mem_of_getElem? (i := 7) rfl)) rfl rfl ?_
      refine zp_icmp (pc := 16) (tgt := 28) hx hb (zd_X7_byteAt (16, .if_icmp .ge 12, 3, 0, []) (List.mem_of_getElem? (i := 8) rfl)) rfl (fun (hc49 : 400 ≤ (i1 : Int)) => ?_) (fun (hc49 : ¬ (400 ≤ (i1 : Int))) => ?_)
      · refine zp_const (pc := 28) hx hb (zd_X7_byteAt (28, .iconst (-1), 1, 0, []) (List.mem_of_getElem? (i := 14) rfl)) rfl rfl ?_
        refine zp_iret (pc := 29) (n := (-1)) hx hb hE hQ hU5 rfl (by decide) (zd_X7_byteAt (29, .ireturn, 1, 0, []) (List.mem_of_getElem? (i := 15) rfl)) (j := 0) rfl (zp_o0 (by omega) (by omega) (by omega) (by omega)) ?_
        rw [hps]
        refine ⟨rfl, rfl, fun i hi => ?_⟩
        have hi : (i1 : Int) = (i : Int) := hi
        obtain rfl : i = i1 := by omega
        show ((i : Int) < zp_n u.2.1 a 1 → (-1) = zp_n u.2.1 (zp_n u.2.1 a 0).toNat (2000 + i)) ∧ (¬ ((i : Int) < zp_n u.2.1 a 1) → (-1) = -1)
        rw [htt]
        omega
      · refine zp_load (pc := 19) hx hb (zd_X7_byteAt (19, .aload_n 0, 1, 0, []) (List.mem_of_getElem? (i := 9) rfl)) rfl (j := 0) rfl ?_
        refine zp_getf (n := (tb : Int)) (pc := 20) hx hb hE hw (zd_X7_byteAt (20, .getfield 11, 3, 0, []) (List.mem_of_getElem? (i := 10) rfl)) (j := 1) rfl rfl rfl hp htb ?_
        refine zp_load (pc := 23) hx hb (zd_X7_byteAt (23, .iload_n 1, 1, 0, []) (List.mem_of_getElem? (i := 11) rfl)) rfl (j := 1) rfl ?_
        refine zp_iald (j := i1) (v := ((zp_n u.2.1) tb (2000 + i1))) (pc := 24) hx hb hw (zd_X7_byteAt (24, .iaload, 1, 0, []) (List.mem_of_getElem? (i := 12) rfl)) (show zp_ia 1 29 = some (400, 0, 0, (-2147483648), 2147483647) from rfl) qtb (by omega) (by omega) rfl (fun hk50 => ?_)
        have hk50b := zp_int hk50
        refine zp_goto (tgt := 29) (pc := 25) hx hb (zd_X7_byteAt (25, .goto 4, 3, 0, []) (List.mem_of_getElem? (i := 13) rfl)) rfl ?_
        refine zp_iret (pc := 29) (n := ((zp_n u.2.1) tb (2000 + i1))) hx hb hE hQ hU5 rfl (by decide) (zd_X7_byteAt (29, .ireturn, 1, 0, []) (List.mem_of_getElem? (i := 15) rfl)) (j := 0) rfl (zp_o0 (by omega) (by omega) (by omega) (by omega)) ?_
        rw [hps]
        refine ⟨rfl, rfl, fun i hi => ?_⟩
        have hi : (i1 : Int) = (i : Int) := hi
        obtain rfl : i = i1 := by omega
        show ((i : Int) < zp_n u.2.1 a 1 → ((zp_n u.2.1) tb (2000 + i)) = zp_n u.2.1 (zp_n u.2.1 a 0).toNat (2000 + i)) ∧ (¬ ((i : Int) < zp_n u.2.1 a 1) → ((zp_n u.2.1) tb (2000 + i)) = -1)
        rw [htt]
        omega
def zK_awr : zk_K := (zt_mn 36, prog_1_method_12_code, 6, (Option.some Jvm.ClassFile.FieldType.boolean), 1, 11, [(2, 12, 0, 0), (0, 0, 0, 400)], [(some (0, 0, 0, 1), [])], [(44, 1001, 0), (45, 1001, 0), (46, 1001, 0), (47, 1001, 0), (48, 1001, 0), (19, 1001, 0), (10, 3, 0)], (1, 40, 0, 0))
def zψ_awr : (Nat → Option Nat) → (Nat → Nat → Int) → List Int → (Nat → Option Nat) → (Nat → Nat → Int) → Int → Prop := fun P G ps P' G' rn => P' = P ∧ (zR_b (fun j => G (G (G (zp_0 ps) 8).toNat 0).toNat (2000 + j)) (G (G (zp_0 ps) 8).toNat 1) (G (G (zp_0 ps) 0).toNat 1) (G (G (zp_0 ps) 0).toNat 3) (ps.getD 1 0).toNat = true → rn = 1 ∧ G' (G (zp_0 ps) 0).toNat 3 = G (G (zp_0 ps) 0).toNat 3 + 1) ∧ (zR_b (fun j => G (G (G (zp_0 ps) 8).toNat 0).toNat (2000 + j)) (G (G (zp_0 ps) 8).toNat 1) (G (G (zp_0 ps) 0).toNat 1) (G (G (zp_0 ps) 0).toNat 3) (ps.getD 1 0).toNat = false → rn = 0 ∧ G' (G (zp_0 ps) 0).toNat 3 = G (G (zp_0 ps) 0).toNat 3)
theorem zX_awr {l : Launch} {w : zk_W} (hW : zh_W w) : zk_metX l w zt_dv zt_TB zK_awr (zp_A zp_tA) (zp_B zψ_awr) ∧ zk_cok w zt_TB zK_awr := by
  refine zp_methX (cn := "WoundTown") zp_lkallW hW (pl := 692) rfl (by decide +kernel) (fun p e R s m args below meth c Q u hx hb hE hQ hU5 heff hnL hok hφ => ?_)
  have hw := hW.1
  obtain ⟨p0, p1, hps, k0, k1⟩ := zp_ps2 hok
  obtain ⟨a, rfl, hp⟩ := zp_this k0
  have hrm : zk_Kr (zk_ev (zt_types, zp_lkW, zt_dv, [], [], zp_lcW, zK_awr)) = zk_Kr zK_awr := rfl
  rw [hps] at hφ ⊢
  have hi1 := zp_int k1
  show zp_J p l e R s m args below meth c Q w u [] 0 [(0, 2, (a : Int)), (1, 0, p1)] [] u.1 (zp_n u.2.1)
  refine zp_kn (k := 0) (a := a) hw (show zp_fd 12 0 = some (11, 2, 10, 0, 0) from rfl) rfl hp (fun hktn => ?_)
  obtain ⟨tn, htn, qtn⟩ := zp_this hktn
  refine zp_kn (k := 1) (a := tn) hw (show zp_fd 10 1 = some (9, 0, 0, 0, 6) from rfl) rfl qtn (fun hkpe => ?_)
  obtain ⟨pe, hpe⟩ : ∃ z0 : Int, (zp_n u.2.1) tn 1 = z0 := ⟨_, rfl⟩
  have hpeb := zp_int hkpe
  rw [hpe] at hpeb
  refine zp_kn (k := 3) (a := tn) hw (show zp_fd 10 3 = some (9, 0, 0, 0, 10) from rfl) rfl qtn (fun hkwk => ?_)
  obtain ⟨wk, hwk⟩ : ∃ z0 : Int, (zp_n u.2.1) tn 3 = z0 := ⟨_, rfl⟩
  have hwkb := zp_int hkwk
  rw [hwk] at hwkb
  refine zp_kn (k := 8) (a := a) hw (show zp_fd 12 8 = some (11, 2, 7, 0, 0) from rfl) rfl hp (fun hktp => ?_)
  obtain ⟨tp, htp, qtp⟩ := zp_this hktp
  refine zp_kn (k := 0) (a := tp) hw (show zp_fd 7 0 = some (7, 2, 29, 0, 0) from rfl) rfl qtp (fun hktb => ?_)
  obtain ⟨tb, htb, qtb⟩ := zp_this hktb
  refine zp_kn (k := 1) (a := tp) hw (show zp_fd 7 1 = some (7, 0, 0, 0, 400) from rfl) rfl qtp (fun hkln => ?_)
  obtain ⟨ln, hln⟩ : ∃ z0 : Int, (zp_n u.2.1) tp 1 = z0 := ⟨_, rfl⟩
  have hlnb := zp_int hkln
  rw [hln] at hlnb
  obtain ⟨i1, rfl⟩ := zp_nat hi1.1
  show zp_J p l e R s m args below meth c Q w u [] 0 [(0, 2, (a : Int)), (1, 0, (i1 : Int))] [] u.1 (zp_n u.2.1)
  have htt : (zp_n u.2.1 a 0).toNat = tn := by rw [htn, Int.toNat_natCast]
  have htu : (zp_n u.2.1 a 8).toNat = tp := by rw [htp, Int.toNat_natCast]
  have htv : (zp_n u.2.1 tp 0).toNat = tb := by rw [htb, Int.toNat_natCast]
  refine zp_load (pc := 0) hx hb (zd_X11_addWorkOfRow (0, .aload_n 0, 1, 0, []) (List.mem_of_getElem? (i := 0) rfl)) rfl (j := 0) rfl ?_
  refine zp_getf (n := (tp : Int)) (pc := 1) hx hb hE hw (zd_X11_addWorkOfRow (1, .getfield 67, 3, 0, []) (List.mem_of_getElem? (i := 1) rfl)) (j := 58) rfl rfl rfl hp htp ?_
  refine zp_load (pc := 4) hx hb (zd_X11_addWorkOfRow (4, .iload_n 1, 1, 0, []) (List.mem_of_getElem? (i := 2) rfl)) rfl (j := 1) rfl ?_
  refine zp_call (pc := 5) (how := 0) (idx := 202) (mi := 37) (S := []) hx hb hE hw heff hrm (zX_bya hW) rfl (j := 22) rfl rfl (by decide +kernel) (zd_X11_addWorkOfRow (5, .invokevirtual 202, 3, 0, []) (List.mem_of_getElem? (i := 3) rfl)) [(tp : Int), (i1 : Int)] rfl ⟨zp_o2 qtp, zp_o0 (by omega) (by omega) (by omega) (by omega), trivial⟩ (Nat.le_of_ble_eq_true rfl) trivial (fun al hal rnb0 Pb0 Gb0 hextb0 hfrb0 hokb0 hcsb0 hpsib0 => ?_)
  obtain rfl := List.mem_singleton.mp hal
  have hrb0 := zp_int (hokb0 _ rfl).1
  obtain ⟨hPeb0, hGeb0, htb0⟩ := hpsib0
  have htb0 : (((i1 : Nat) : Int) < zp_n u.2.1 tp 1 → rnb0 = zp_n u.2.1 (zp_n u.2.1 tp 0).toNat (2000 + i1)) ∧ (¬ (((i1 : Nat) : Int) < zp_n u.2.1 tp 1) → rnb0 = -1) := htb0 i1 (by show (i1 : Int) = ((i1 : Nat) : Int); omega)
  rw [htv, hln] at htb0
  rw [hPeb0, hGeb0]
  refine zp_store (L' := [(2, 0, rnb0), (0, 2, (a : Int)), (1, 0, (i1 : Int))]) (pc := 8) hx hb hnL (zd_X11_addWorkOfRow (8, .istore_n 2, 1, 0, []) (List.mem_of_getElem? (i := 4) rfl)) rfl rfl rfl ?_
  refine zp_load (pc := 9) hx hb (zd_X11_addWorkOfRow (9, .aload_n 0, 1, 0, []) (List.mem_of_getElem? (i := 5) rfl)) rfl (j := 1) rfl ?_
  refine zp_getf (n := (tp : Int)) (pc := 10) hx hb hE hw (zd_X11_addWorkOfRow (10, .getfield 67, 3, 0, []) (List.mem_of_getElem? (i := 6) rfl)) (j := 58) rfl rfl rfl hp htp ?_
  refine zp_load (pc := 13) hx hb (zd_X11_addWorkOfRow (13, .iload_n 1, 1, 0, []) (List.mem_of_getElem? (i := 7) rfl)) rfl (j := 2) rfl ?_
  refine zp_const (pc := 14) hx hb (zd_X11_addWorkOfRow (14, .iconst 1, 1, 0, []) (List.mem_of_getElem? (i := 8) rfl)) rfl rfl ?_
  refine zp_add (n := ((i1 : Int) + 1)) (pc := 15) hx hb (zd_X11_addWorkOfRow (15, .iadd, 1, 0, []) (List.mem_of_getElem? (i := 9) rfl)) (by omega) (zp_r0 (by omega) (by omega)) ?_
  refine zp_call (pc := 16) (how := 0) (idx := 202) (mi := 37) (S := []) hx hb hE hw heff hrm (zX_bya hW) rfl (j := 22) rfl rfl (by decide +kernel) (zd_X11_addWorkOfRow (16, .invokevirtual 202, 3, 0, []) (List.mem_of_getElem? (i := 10) rfl)) [(tp : Int), ((i1 : Int) + 1)] rfl ⟨zp_o2 qtp, zp_o0 (by omega) (by omega) (by omega) (by omega), trivial⟩ (Nat.le_of_ble_eq_true rfl) trivial (fun al hal rnb1 Pb1 Gb1 hextb1 hfrb1 hokb1 hcsb1 hpsib1 => ?_)
  obtain rfl := List.mem_singleton.mp hal
  have hrb1 := zp_int (hokb1 _ rfl).1
  obtain ⟨hPeb1, hGeb1, htb1⟩ := hpsib1
  have htb1 : ((((i1 + 1) : Nat) : Int) < zp_n u.2.1 tp 1 → rnb1 = zp_n u.2.1 (zp_n u.2.1 tp 0).toNat (2000 + (i1 + 1))) ∧ (¬ ((((i1 + 1) : Nat) : Int) < zp_n u.2.1 tp 1) → rnb1 = -1) := htb1 (i1 + 1) (by show ((i1 : Int) + 1) = (((i1 + 1) : Nat) : Int); omega)
  rw [htv, hln] at htb1
  rw [hPeb1, hGeb1]
  refine zp_store (L' := [(3, 0, rnb1), (2, 0, rnb0), (0, 2, (a : Int)), (1, 0, (i1 : Int))]) (pc := 19) hx hb hnL (zd_X11_addWorkOfRow (19, .istore_n 3, 1, 0, []) (List.mem_of_getElem? (i := 11) rfl)) rfl rfl rfl ?_
  refine zp_load (pc := 20) hx hb (zd_X11_addWorkOfRow (20, .aload_n 0, 1, 0, []) (List.mem_of_getElem? (i := 12) rfl)) rfl (j := 2) rfl ?_
  refine zp_getf (n := (tp : Int)) (pc := 21) hx hb hE hw (zd_X11_addWorkOfRow (21, .getfield 67, 3, 0, []) (List.mem_of_getElem? (i := 13) rfl)) (j := 58) rfl rfl rfl hp htp ?_
  refine zp_load (pc := 24) hx hb (zd_X11_addWorkOfRow (24, .iload_n 1, 1, 0, []) (List.mem_of_getElem? (i := 14) rfl)) rfl (j := 3) rfl ?_
  refine zp_const (pc := 25) hx hb (zd_X11_addWorkOfRow (25, .iconst 2, 1, 0, []) (List.mem_of_getElem? (i := 15) rfl)) rfl rfl ?_
  refine zp_add (n := ((i1 : Int) + 2)) (pc := 26) hx hb (zd_X11_addWorkOfRow (26, .iadd, 1, 0, []) (List.mem_of_getElem? (i := 16) rfl)) (by omega) (zp_r0 (by omega) (by omega)) ?_
  refine zp_call (pc := 27) (how := 0) (idx := 202) (mi := 37) (S := []) hx hb hE hw heff hrm (zX_bya hW) rfl (j := 22) rfl rfl (by decide +kernel) (zd_X11_addWorkOfRow (27, .invokevirtual 202, 3, 0, []) (List.mem_of_getElem? (i := 17) rfl)) [(tp : Int), ((i1 : Int) + 2)] rfl ⟨zp_o2 qtp, zp_o0 (by omega) (by omega) (by omega) (by omega), trivial⟩ (Nat.le_of_ble_eq_true rfl) trivial (fun al hal rnb2 Pb2 Gb2 hextb2 hfrb2 hokb2 hcsb2 hpsib2 => ?_)
  obtain rfl := List.mem_singleton.mp hal
  have hrb2 := zp_int (hokb2 _ rfl).1
  obtain ⟨hPeb2, hGeb2, htb2⟩ := hpsib2
  have htb2 : ((((i1 + 2) : Nat) : Int) < zp_n u.2.1 tp 1 → rnb2 = zp_n u.2.1 (zp_n u.2.1 tp 0).toNat (2000 + (i1 + 2))) ∧ (¬ ((((i1 + 2) : Nat) : Int) < zp_n u.2.1 tp 1) → rnb2 = -1) := htb2 (i1 + 2) (by show ((i1 : Int) + 2) = (((i1 + 2) : Nat) : Int); omega)
  rw [htv, hln] at htb2
  rw [hPeb2, hGeb2]
  refine zp_store (L' := [(4, 0, rnb2), (3, 0, rnb1), (2, 0, rnb0), (0, 2, (a : Int)), (1, 0, (i1 : Int))]) (pc := 30) hx hb hnL (zd_X11_addWorkOfRow (30, .istore 4, 2, 0, []) (List.mem_of_getElem? (i := 18) rfl)) rfl rfl rfl ?_
  refine zp_load (pc := 32) hx hb (zd_X11_addWorkOfRow (32, .aload_n 0, 1, 0, []) (List.mem_of_getElem? (i := 19) rfl)) rfl (j := 3) rfl ?_
  refine zp_getf (n := (tp : Int)) (pc := 33) hx hb hE hw (zd_X11_addWorkOfRow (33, .getfield 67, 3, 0, []) (List.mem_of_getElem? (i := 20) rfl)) (j := 58) rfl rfl rfl hp htp ?_
  refine zp_load (pc := 36) hx hb (zd_X11_addWorkOfRow (36, .iload_n 1, 1, 0, []) (List.mem_of_getElem? (i := 21) rfl)) rfl (j := 4) rfl ?_
  refine zp_const (pc := 37) hx hb (zd_X11_addWorkOfRow (37, .iconst 3, 1, 0, []) (List.mem_of_getElem? (i := 22) rfl)) rfl rfl ?_
  refine zp_add (n := ((i1 : Int) + 3)) (pc := 38) hx hb (zd_X11_addWorkOfRow (38, .iadd, 1, 0, []) (List.mem_of_getElem? (i := 23) rfl)) (by omega) (zp_r0 (by omega) (by omega)) ?_
  refine zp_call (pc := 39) (how := 0) (idx := 202) (mi := 37) (S := []) hx hb hE hw heff hrm (zX_bya hW) rfl (j := 22) rfl rfl (by decide +kernel) (zd_X11_addWorkOfRow (39, .invokevirtual 202, 3, 0, []) (List.mem_of_getElem? (i := 24) rfl)) [(tp : Int), ((i1 : Int) + 3)] rfl ⟨zp_o2 qtp, zp_o0 (by omega) (by omega) (by omega) (by omega), trivial⟩ (Nat.le_of_ble_eq_true rfl) trivial (fun al hal rnb3 Pb3 Gb3 hextb3 hfrb3 hokb3 hcsb3 hpsib3 => ?_)
  obtain rfl := List.mem_singleton.mp hal
  have hrb3 := zp_int (hokb3 _ rfl).1
  obtain ⟨hPeb3, hGeb3, htb3⟩ := hpsib3
  have htb3 : ((((i1 + 3) : Nat) : Int) < zp_n u.2.1 tp 1 → rnb3 = zp_n u.2.1 (zp_n u.2.1 tp 0).toNat (2000 + (i1 + 3))) ∧ (¬ ((((i1 + 3) : Nat) : Int) < zp_n u.2.1 tp 1) → rnb3 = -1) := htb3 (i1 + 3) (by show ((i1 : Int) + 3) = (((i1 + 3) : Nat) : Int); omega)
  rw [htv, hln] at htb3
  rw [hPeb3, hGeb3]
  refine zp_store (L' := [(5, 0, rnb3), (4, 0, rnb2), (3, 0, rnb1), (2, 0, rnb0), (0, 2, (a : Int)), (1, 0, (i1 : Int))]) (pc := 42) hx hb hnL (zd_X11_addWorkOfRow (42, .istore 5, 2, 0, []) (List.mem_of_getElem? (i := 25) rfl)) rfl rfl rfl ?_
  refine zp_load (pc := 44) hx hb (zd_X11_addWorkOfRow (44, .aload_n 0, 1, 0, []) (List.mem_of_getElem? (i := 26) rfl)) rfl (j := 4) rfl ?_
  refine zp_getf (n := (tn : Int)) (pc := 45) hx hb hE hw (zd_X11_addWorkOfRow (45, .getfield 10, 3, 0, []) (List.mem_of_getElem? (i := 27) rfl)) (j := 50) rfl rfl rfl hp htn ?_
  refine zp_load (pc := 48) hx hb (zd_X11_addWorkOfRow (48, .iload_n 2, 1, 0, []) (List.mem_of_getElem? (i := 28) rfl)) rfl (j := 3) rfl ?_
  have hvh36 : (zp_n u.2.1) tn 1 = pe := hpe
  refine zp_call (pc := 49) (how := 0) (idx := 131) (mi := 22) (S := []) hx hb hE hw heff hrm (zX_hpn hW) rfl (j := 15) rfl rfl (by decide +kernel) (zd_X11_addWorkOfRow (49, .invokevirtual 131, 3, 0, []) (List.mem_of_getElem? (i := 29) rfl)) [(tn : Int), rnb0] rfl ⟨zp_o2 qtn, zp_o0 (by omega) (by omega) (by omega) (by omega), trivial⟩ (Nat.le_of_ble_eq_true rfl) trivial (fun al hal rnh36 Ph36 Gh36 hexth36 hfrh36 hokh36 hcsh36 hpsih36 => ?_)
  obtain rfl := List.mem_singleton.mp hal
  have hrh36 := zp_int (hokh36 _ rfl).1
  obtain ⟨hPeh36, hGeh36, hth36⟩ := hpsih36
  have hth36 : rnh36 = 1 ↔ 0 ≤ rnb0 ∧ rnb0 < (zp_n u.2.1) tn 1 := hth36
  rw [hPeh36, hGeh36]
  rw [hvh36] at hth36
  refine zp_if (pc := 52) (tgt := 94) hx hb (zd_X11_addWorkOfRow (52, .ifCond .eq 42, 3, 0, []) (List.mem_of_getElem? (i := 30) rfl)) rfl (fun (hc51 : rnh36 = 0) => ?_) (fun (hc51 : ¬ (rnh36 = 0)) => ?_)
  · refine zp_const (pc := 94) hx hb (zd_X11_addWorkOfRow (94, .iconst 0, 1, 0, []) (List.mem_of_getElem? (i := 49) rfl)) rfl rfl ?_
    have ez0 : (zp_n u.2.1) tn 3 = wk := hwk
    refine zp_zret (pc := 95) (n := 0) hx hb hE hQ hU5 rfl (by decide) (zd_X11_addWorkOfRow (95, .ireturn, 1, 0, []) (List.mem_of_getElem? (i := 50) rfl)) (j := 0) rfl (zp_o0 (by omega) (by omega) (by omega) (by omega)) ?_
    rw [hps]
    refine ⟨by first | rfl | assumption, ?_⟩
    show (zR_b (fun j => zp_n u.2.1 (zp_n u.2.1 (zp_n u.2.1 a 8).toNat 0).toNat (2000 + j)) (zp_n u.2.1 (zp_n u.2.1 a 8).toNat 1) (zp_n u.2.1 (zp_n u.2.1 a 0).toNat 1) (zp_n u.2.1 (zp_n u.2.1 a 0).toNat 3) i1 = true → 0 = 1 ∧ (zp_n u.2.1) (zp_n u.2.1 a 0).toNat 3 = zp_n u.2.1 (zp_n u.2.1 a 0).toNat 3 + 1) ∧ (zR_b (fun j => zp_n u.2.1 (zp_n u.2.1 (zp_n u.2.1 a 8).toNat 0).toNat (2000 + j)) (zp_n u.2.1 (zp_n u.2.1 a 8).toNat 1) (zp_n u.2.1 (zp_n u.2.1 a 0).toNat 1) (zp_n u.2.1 (zp_n u.2.1 a 0).toNat 3) i1 = false → 0 = 0 ∧ (zp_n u.2.1) (zp_n u.2.1 a 0).toNat 3 = zp_n u.2.1 (zp_n u.2.1 a 0).toNat 3)
    rw [htt, htu, htv, hln, hpe]
    have hzb : zR_b (fun j => zp_n u.2.1 tb (2000 + j)) ln pe (zp_n u.2.1 tn 3) i1 = true ↔ ((i1 : Int) + 3 < ln ∧ 0 ≤ zp_n u.2.1 tb (2000 + i1) ∧ zp_n u.2.1 tb (2000 + i1) < pe ∧ 1 ≤ zp_n u.2.1 tb (2000 + (i1 + 1)) ∧ 0 ≤ zp_n u.2.1 tb (2000 + (i1 + 2)) ∧ zp_n u.2.1 tb (2000 + (i1 + 2)) ≤ 23 ∧ 1 ≤ zp_n u.2.1 tb (2000 + (i1 + 3)) ∧ zp_n u.2.1 tb (2000 + (i1 + 3)) ≤ 99 ∧ zp_n u.2.1 tn 3 < 10) := decide_eq_true_iff
    generalize zR_b (fun j => zp_n u.2.1 tb (2000 + j)) ln pe (zp_n u.2.1 tn 3) i1 = zb at hzb ⊢
    refine ⟨fun e => ?_, fun e => ?_⟩
    · have := hzb.mp e
      omega
    · have := mt hzb.mpr (by rw [e]; decide)
      omega
  · refine zp_load (pc := 55) hx hb (zd_X11_addWorkOfRow (55, .iload_n 3, 1, 0, []) (List.mem_of_getElem? (i := 31) rfl)) rfl (j := 2) rfl ?_
    refine zp_const (pc := 56) hx hb (zd_X11_addWorkOfRow (56, .iconst 1, 1, 0, []) (List.mem_of_getElem? (i := 32) rfl)) rfl rfl ?_
    refine zp_icmp (pc := 57) (tgt := 94) hx hb (zd_X11_addWorkOfRow (57, .if_icmp .lt 37, 3, 0, []) (List.mem_of_getElem? (i := 33) rfl)) rfl (fun (hc52 : rnb1 < 1) => ?_) (fun (hc52 : ¬ (rnb1 < 1)) => ?_)
    · refine zp_const (pc := 94) hx hb (zd_X11_addWorkOfRow (94, .iconst 0, 1, 0, []) (List.mem_of_getElem? (i := 49) rfl)) rfl rfl ?_
      have ez0 : (zp_n u.2.1) tn 3 = wk := hwk
      refine zp_zret (pc := 95) (n := 0) hx hb hE hQ hU5 rfl (by decide) (zd_X11_addWorkOfRow (95, .ireturn, 1, 0, []) (List.mem_of_getElem? (i := 50) rfl)) (j := 0) rfl (zp_o0 (by omega) (by omega) (by omega) (by omega)) ?_
      rw [hps]
      refine ⟨by first | rfl | assumption, ?_⟩
      show (zR_b (fun j => zp_n u.2.1 (zp_n u.2.1 (zp_n u.2.1 a 8).toNat 0).toNat (2000 + j)) (zp_n u.2.1 (zp_n u.2.1 a 8).toNat 1) (zp_n u.2.1 (zp_n u.2.1 a 0).toNat 1) (zp_n u.2.1 (zp_n u.2.1 a 0).toNat 3) i1 = true → 0 = 1 ∧ (zp_n u.2.1) (zp_n u.2.1 a 0).toNat 3 = zp_n u.2.1 (zp_n u.2.1 a 0).toNat 3 + 1) ∧ (zR_b (fun j => zp_n u.2.1 (zp_n u.2.1 (zp_n u.2.1 a 8).toNat 0).toNat (2000 + j)) (zp_n u.2.1 (zp_n u.2.1 a 8).toNat 1) (zp_n u.2.1 (zp_n u.2.1 a 0).toNat 1) (zp_n u.2.1 (zp_n u.2.1 a 0).toNat 3) i1 = false → 0 = 0 ∧ (zp_n u.2.1) (zp_n u.2.1 a 0).toNat 3 = zp_n u.2.1 (zp_n u.2.1 a 0).toNat 3)
      rw [htt, htu, htv, hln, hpe]
      have hzb : zR_b (fun j => zp_n u.2.1 tb (2000 + j)) ln pe (zp_n u.2.1 tn 3) i1 = true ↔ ((i1 : Int) + 3 < ln ∧ 0 ≤ zp_n u.2.1 tb (2000 + i1) ∧ zp_n u.2.1 tb (2000 + i1) < pe ∧ 1 ≤ zp_n u.2.1 tb (2000 + (i1 + 1)) ∧ 0 ≤ zp_n u.2.1 tb (2000 + (i1 + 2)) ∧ zp_n u.2.1 tb (2000 + (i1 + 2)) ≤ 23 ∧ 1 ≤ zp_n u.2.1 tb (2000 + (i1 + 3)) ∧ zp_n u.2.1 tb (2000 + (i1 + 3)) ≤ 99 ∧ zp_n u.2.1 tn 3 < 10) := decide_eq_true_iff
      generalize zR_b (fun j => zp_n u.2.1 tb (2000 + j)) ln pe (zp_n u.2.1 tn 3) i1 = zb at hzb ⊢
      refine ⟨fun e => ?_, fun e => ?_⟩
      · have := hzb.mp e
        omega
      · have := mt hzb.mpr (by rw [e]; decide)
        omega
    · refine zp_load (pc := 60) hx hb (zd_X11_addWorkOfRow (60, .iload 4, 2, 0, []) (List.mem_of_getElem? (i := 34) rfl)) rfl (j := 1) rfl ?_
      refine zp_const (pc := 62) hx hb (zd_X11_addWorkOfRow (62, .iconst 0, 1, 0, []) (List.mem_of_getElem? (i := 35) rfl)) rfl rfl ?_
      refine zp_const (pc := 63) hx hb (zd_X11_addWorkOfRow (63, .bipush 23, 2, 0, []) (List.mem_of_getElem? (i := 36) rfl)) rfl rfl ?_
      refine zp_call (pc := 65) (how := 1) (idx := 107) (mi := 15) (S := []) hx hb hE hw heff hrm (zX_iwn hW) rfl (j := 10) rfl rfl (by decide +kernel) (zd_X11_addWorkOfRow (65, .invokestatic 107, 3, 0, []) (List.mem_of_getElem? (i := 37) rfl)) [rnb2, 0, 23] rfl ⟨zp_o0 (by omega) (by omega) (by omega) (by omega), zp_o0 (by omega) (by omega) (by omega) (by omega), zp_o0 (by omega) (by omega) (by omega) (by omega), trivial⟩ (Nat.le_of_ble_eq_true rfl) trivial (fun al hal rnw37 Pw37 Gw37 hextw37 hfrw37 hokw37 hcsw37 hpsiw37 => ?_)
      obtain rfl := List.mem_singleton.mp hal
      have hrw37 := zp_int (hokw37 _ rfl).1
      obtain ⟨hPew37, hGew37, htw37⟩ := hpsiw37
      have htw37 : rnw37 = 1 ↔ 0 ≤ rnb2 ∧ rnb2 ≤ 23 := htw37
      rw [hPew37, hGew37]
      refine zp_if (pc := 68) (tgt := 94) hx hb (zd_X11_addWorkOfRow (68, .ifCond .eq 26, 3, 0, []) (List.mem_of_getElem? (i := 38) rfl)) rfl (fun (hc53 : rnw37 = 0) => ?_) (fun (hc53 : ¬ (rnw37 = 0)) => ?_)
      · refine zp_const (pc := 94) hx hb (zd_X11_addWorkOfRow (94, .iconst 0, 1, 0, []) (List.mem_of_getElem? (i := 49) rfl)) rfl rfl ?_
        have ez0 : (zp_n u.2.1) tn 3 = wk := hwk
        refine zp_zret (pc := 95) (n := 0) hx hb hE hQ hU5 rfl (by decide) (zd_X11_addWorkOfRow (95, .ireturn, 1, 0, []) (List.mem_of_getElem? (i := 50) rfl)) (j := 0) rfl (zp_o0 (by omega) (by omega) (by omega) (by omega)) ?_
        rw [hps]
        refine ⟨by first | rfl | assumption, ?_⟩
        show (zR_b (fun j => zp_n u.2.1 (zp_n u.2.1 (zp_n u.2.1 a 8).toNat 0).toNat (2000 + j)) (zp_n u.2.1 (zp_n u.2.1 a 8).toNat 1) (zp_n u.2.1 (zp_n u.2.1 a 0).toNat 1) (zp_n u.2.1 (zp_n u.2.1 a 0).toNat 3) i1 = true → 0 = 1 ∧ (zp_n u.2.1) (zp_n u.2.1 a 0).toNat 3 = zp_n u.2.1 (zp_n u.2.1 a 0).toNat 3 + 1) ∧ (zR_b (fun j => zp_n u.2.1 (zp_n u.2.1 (zp_n u.2.1 a 8).toNat 0).toNat (2000 + j)) (zp_n u.2.1 (zp_n u.2.1 a 8).toNat 1) (zp_n u.2.1 (zp_n u.2.1 a 0).toNat 1) (zp_n u.2.1 (zp_n u.2.1 a 0).toNat 3) i1 = false → 0 = 0 ∧ (zp_n u.2.1) (zp_n u.2.1 a 0).toNat 3 = zp_n u.2.1 (zp_n u.2.1 a 0).toNat 3)
        rw [htt, htu, htv, hln, hpe]
        have hzb : zR_b (fun j => zp_n u.2.1 tb (2000 + j)) ln pe (zp_n u.2.1 tn 3) i1 = true ↔ ((i1 : Int) + 3 < ln ∧ 0 ≤ zp_n u.2.1 tb (2000 + i1) ∧ zp_n u.2.1 tb (2000 + i1) < pe ∧ 1 ≤ zp_n u.2.1 tb (2000 + (i1 + 1)) ∧ 0 ≤ zp_n u.2.1 tb (2000 + (i1 + 2)) ∧ zp_n u.2.1 tb (2000 + (i1 + 2)) ≤ 23 ∧ 1 ≤ zp_n u.2.1 tb (2000 + (i1 + 3)) ∧ zp_n u.2.1 tb (2000 + (i1 + 3)) ≤ 99 ∧ zp_n u.2.1 tn 3 < 10) := decide_eq_true_iff
        generalize zR_b (fun j => zp_n u.2.1 tb (2000 + j)) ln pe (zp_n u.2.1 tn 3) i1 = zb at hzb ⊢
        refine ⟨fun e => ?_, fun e => ?_⟩
        · have := hzb.mp e
          omega
        · have := mt hzb.mpr (by rw [e]; decide)
          omega
      · refine zp_load (pc := 71) hx hb (zd_X11_addWorkOfRow (71, .iload 5, 2, 0, []) (List.mem_of_getElem? (i := 39) rfl)) rfl (j := 0) rfl ?_
        refine zp_const (pc := 73) hx hb (zd_X11_addWorkOfRow (73, .iconst 1, 1, 0, []) (List.mem_of_getElem? (i := 40) rfl)) rfl rfl ?_
        refine zp_const (pc := 74) hx hb (zd_X11_addWorkOfRow (74, .bipush 99, 2, 0, []) (List.mem_of_getElem? (i := 41) rfl)) rfl rfl ?_
        refine zp_call (pc := 76) (how := 1) (idx := 107) (mi := 15) (S := []) hx hb hE hw heff hrm (zX_iwn hW) rfl (j := 10) rfl rfl (by decide +kernel) (zd_X11_addWorkOfRow (76, .invokestatic 107, 3, 0, []) (List.mem_of_getElem? (i := 42) rfl)) [rnb3, 1, 99] rfl ⟨zp_o0 (by omega) (by omega) (by omega) (by omega), zp_o0 (by omega) (by omega) (by omega) (by omega), zp_o0 (by omega) (by omega) (by omega) (by omega), trivial⟩ (Nat.le_of_ble_eq_true rfl) trivial (fun al hal rnw38 Pw38 Gw38 hextw38 hfrw38 hokw38 hcsw38 hpsiw38 => ?_)
        obtain rfl := List.mem_singleton.mp hal
        have hrw38 := zp_int (hokw38 _ rfl).1
        obtain ⟨hPew38, hGew38, htw38⟩ := hpsiw38
        have htw38 : rnw38 = 1 ↔ 1 ≤ rnb3 ∧ rnb3 ≤ 99 := htw38
        rw [hPew38, hGew38]
        refine zp_if (pc := 79) (tgt := 94) hx hb (zd_X11_addWorkOfRow (79, .ifCond .eq 15, 3, 0, []) (List.mem_of_getElem? (i := 43) rfl)) rfl (fun (hc54 : rnw38 = 0) => ?_) (fun (hc54 : ¬ (rnw38 = 0)) => ?_)
        · refine zp_const (pc := 94) hx hb (zd_X11_addWorkOfRow (94, .iconst 0, 1, 0, []) (List.mem_of_getElem? (i := 49) rfl)) rfl rfl ?_
          have ez0 : (zp_n u.2.1) tn 3 = wk := hwk
          refine zp_zret (pc := 95) (n := 0) hx hb hE hQ hU5 rfl (by decide) (zd_X11_addWorkOfRow (95, .ireturn, 1, 0, []) (List.mem_of_getElem? (i := 50) rfl)) (j := 0) rfl (zp_o0 (by omega) (by omega) (by omega) (by omega)) ?_
          rw [hps]
          refine ⟨by first | rfl | assumption, ?_⟩
          show (zR_b (fun j => zp_n u.2.1 (zp_n u.2.1 (zp_n u.2.1 a 8).toNat 0).toNat (2000 + j)) (zp_n u.2.1 (zp_n u.2.1 a 8).toNat 1) (zp_n u.2.1 (zp_n u.2.1 a 0).toNat 1) (zp_n u.2.1 (zp_n u.2.1 a 0).toNat 3) i1 = true → 0 = 1 ∧ (zp_n u.2.1) (zp_n u.2.1 a 0).toNat 3 = zp_n u.2.1 (zp_n u.2.1 a 0).toNat 3 + 1) ∧ (zR_b (fun j => zp_n u.2.1 (zp_n u.2.1 (zp_n u.2.1 a 8).toNat 0).toNat (2000 + j)) (zp_n u.2.1 (zp_n u.2.1 a 8).toNat 1) (zp_n u.2.1 (zp_n u.2.1 a 0).toNat 1) (zp_n u.2.1 (zp_n u.2.1 a 0).toNat 3) i1 = false → 0 = 0 ∧ (zp_n u.2.1) (zp_n u.2.1 a 0).toNat 3 = zp_n u.2.1 (zp_n u.2.1 a 0).toNat 3)
          rw [htt, htu, htv, hln, hpe]
          have hzb : zR_b (fun j => zp_n u.2.1 tb (2000 + j)) ln pe (zp_n u.2.1 tn 3) i1 = true ↔ ((i1 : Int) + 3 < ln ∧ 0 ≤ zp_n u.2.1 tb (2000 + i1) ∧ zp_n u.2.1 tb (2000 + i1) < pe ∧ 1 ≤ zp_n u.2.1 tb (2000 + (i1 + 1)) ∧ 0 ≤ zp_n u.2.1 tb (2000 + (i1 + 2)) ∧ zp_n u.2.1 tb (2000 + (i1 + 2)) ≤ 23 ∧ 1 ≤ zp_n u.2.1 tb (2000 + (i1 + 3)) ∧ zp_n u.2.1 tb (2000 + (i1 + 3)) ≤ 99 ∧ zp_n u.2.1 tn 3 < 10) := decide_eq_true_iff
          generalize zR_b (fun j => zp_n u.2.1 tb (2000 + j)) ln pe (zp_n u.2.1 tn 3) i1 = zb at hzb ⊢
          refine ⟨fun e => ?_, fun e => ?_⟩
          · have := hzb.mp e
            omega
          · have := mt hzb.mpr (by rw [e]; decide)
            omega
        · refine zp_load (pc := 82) hx hb (zd_X11_addWorkOfRow (82, .aload_n 0, 1, 0, []) (List.mem_of_getElem? (i := 44) rfl)) rfl (j := 4) rfl ?_
          refine zp_getf (n := (tn : Int)) (pc := 83) hx hb hE hw (zd_X11_addWorkOfRow (83, .getfield 10, 3, 0, []) (List.mem_of_getElem? (i := 45) rfl)) (j := 50) rfl rfl rfl hp htn ?_
          refine zp_getf (n := wk) (pc := 86) hx hb hE hw (zd_X11_addWorkOfRow (86, .getfield 153, 3, 0, []) (List.mem_of_getElem? (i := 46) rfl)) (j := 12) rfl rfl rfl qtn hwk ?_
          refine zp_const (pc := 89) hx hb (zd_X11_addWorkOfRow (89, .bipush 10, 2, 0, []) (List.mem_of_getElem? (i := 47) rfl)) rfl rfl ?_
          refine zp_icmp (pc := 91) (tgt := 96) hx hb (zd_X11_addWorkOfRow (91, .if_icmp .lt 5, 3, 0, []) (List.mem_of_getElem? (i := 48) rfl)) rfl (fun (hc55 : wk < 10) => ?_) (fun (hc55 : ¬ (wk < 10)) => ?_)
          · refine zp_load (pc := 96) hx hb (zd_X11_addWorkOfRow (96, .aload_n 0, 1, 0, []) (List.mem_of_getElem? (i := 51) rfl)) rfl (j := 4) rfl ?_
            refine zp_getf (n := (tn : Int)) (pc := 97) hx hb hE hw (zd_X11_addWorkOfRow (97, .getfield 10, 3, 0, []) (List.mem_of_getElem? (i := 52) rfl)) (j := 50) rfl rfl rfl hp htn ?_
            refine zp_load (pc := 100) hx hb (zd_X11_addWorkOfRow (100, .iload_n 2, 1, 0, []) (List.mem_of_getElem? (i := 53) rfl)) rfl (j := 3) rfl ?_
            refine zp_load (pc := 101) hx hb (zd_X11_addWorkOfRow (101, .iload_n 3, 1, 0, []) (List.mem_of_getElem? (i := 54) rfl)) rfl (j := 2) rfl ?_
            refine zp_load (pc := 102) hx hb (zd_X11_addWorkOfRow (102, .iload 4, 2, 0, []) (List.mem_of_getElem? (i := 55) rfl)) rfl (j := 1) rfl ?_
            refine zp_load (pc := 104) hx hb (zd_X11_addWorkOfRow (104, .iload 5, 2, 0, []) (List.mem_of_getElem? (i := 56) rfl)) rfl (j := 0) rfl ?_
            refine zp_const (pc := 106) hx hb (zd_X11_addWorkOfRow (106, .iconst (-1), 1, 0, []) (List.mem_of_getElem? (i := 57) rfl)) rfl rfl ?_
            have qd39 : (zp_n u.2.1) tn 3 = wk := hwk
            refine zp_call (pc := 107) (how := 0) (idx := 156) (mi := 28) (S := []) hx hb hE hw heff hrm (zX_awk hW) rfl (j := 18) rfl rfl (by decide +kernel) (zd_X11_addWorkOfRow (107, .invokevirtual 156, 3, 0, []) (List.mem_of_getElem? (i := 58) rfl)) [(tn : Int), rnb0, rnb1, rnb2, rnb3, (-1)] rfl ⟨zp_o2 qtn, zp_o0 (by omega) (by omega) (by omega) (by omega), zp_o0 (by omega) (by omega) (by omega) (by omega), zp_o0 (by omega) (by omega) (by omega) (by omega), zp_o0 (by omega) (by omega) (by omega) (by omega), zp_o0 (by omega) (by omega) (by omega) (by omega), trivial⟩ (Nat.le_of_ble_eq_true rfl) (show (zp_n u.2.1) tn 3 < 10 by omega) (fun al hal rnd39 Pd39 Gd39 hextd39 hfrd39 hokd39 hcsd39 hpsid39 => ?_)
            obtain rfl := List.mem_singleton.mp hal
            have hrd39 := zp_int (hokd39 _ rfl).1
            have yad39 := hextd39 _ _ hp
            have ytnd39 := hextd39 _ _ qtn
            have ytpd39 := hextd39 _ _ qtp
            have ytbd39 := hextd39 _ _ qtb
            obtain ⟨hP9d39, htd39⟩ := hpsid39
            have htd39 : rnd39 = (zp_n u.2.1) tn 3 ∧ Gd39 tn 3 = (zp_n u.2.1) tn 3 + 1 := htd39
            obtain ⟨hud39, hvd39⟩ := htd39
            have hzd39 : Gd39 tn 3 = wk + 1 := by omega
            have hzbd39 : 0 ≤ wk := by omega
            refine zp_pop (pc := 110) hx hb (zd_X11_addWorkOfRow (110, .pop, 1, 0, []) (List.mem_of_getElem? (i := 59) rfl)) (show (0 : Nat) ≠ 1 by decide) ?_
            refine zp_const (pc := 111) hx hb (zd_X11_addWorkOfRow (111, .iconst 1, 1, 0, []) (List.mem_of_getElem? (i := 60) rfl)) rfl rfl ?_
            have ez0 : Gd39 tn 3 = (wk + 1) := hzd39
            refine zp_zret (pc := 112) (n := 1) hx hb hE hQ hU5 rfl (by decide) (zd_X11_addWorkOfRow (112, .ireturn, 1, 0, []) (List.mem_of_getElem? (i := 61) rfl)) (j := 0) rfl (zp_o0 (by omega) (by omega) (by omega) (by omega)) ?_
            rw [hps]
            refine ⟨by first | rfl | assumption, ?_⟩
            show (zR_b (fun j => zp_n u.2.1 (zp_n u.2.1 (zp_n u.2.1 a 8).toNat 0).toNat (2000 + j)) (zp_n u.2.1 (zp_n u.2.1 a 8).toNat 1) (zp_n u.2.1 (zp_n u.2.1 a 0).toNat 1) (zp_n u.2.1 (zp_n u.2.1 a 0).toNat 3) i1 = true → 1 = 1 ∧ Gd39 (zp_n u.2.1 a 0).toNat 3 = zp_n u.2.1 (zp_n u.2.1 a 0).toNat 3 + 1) ∧ (zR_b (fun j => zp_n u.2.1 (zp_n u.2.1 (zp_n u.2.1 a 8).toNat 0).toNat (2000 + j)) (zp_n u.2.1 (zp_n u.2.1 a 8).toNat 1) (zp_n u.2.1 (zp_n u.2.1 a 0).toNat 1) (zp_n u.2.1 (zp_n u.2.1 a 0).toNat 3) i1 = false → 1 = 0 ∧ Gd39 (zp_n u.2.1 a 0).toNat 3 = zp_n u.2.1 (zp_n u.2.1 a 0).toNat 3)
            rw [htt, htu, htv, hln, hpe]
            have hzb : zR_b (fun j => zp_n u.2.1 tb (2000 + j)) ln pe (zp_n u.2.1 tn 3) i1 = true ↔ ((i1 : Int) + 3 < ln ∧ 0 ≤ zp_n u.2.1 tb (2000 + i1) ∧ zp_n u.2.1 tb (2000 + i1) < pe ∧ 1 ≤ zp_n u.2.1 tb (2000 + (i1 + 1)) ∧ 0 ≤ zp_n u.2.1 tb (2000 + (i1 + 2)) ∧ zp_n u.2.1 tb (2000 + (i1 + 2)) ≤ 23 ∧ 1 ≤ zp_n u.2.1 tb (2000 + (i1 + 3)) ∧ zp_n u.2.1 tb (2000 + (i1 + 3)) ≤ 99 ∧ zp_n u.2.1 tn 3 < 10) := decide_eq_true_iff
            generalize zR_b (fun j => zp_n u.2.1 tb (2000 + j)) ln pe (zp_n u.2.1 tn 3) i1 = zb at hzb ⊢
            refine ⟨fun e => ?_, fun e => ?_⟩
            · have := hzb.mp e
              omega
            · have := mt hzb.mpr (by rw [e]; decide)
              omega
          · refine zp_const (pc := 94) hx hb (zd_X11_addWorkOfRow (94, .iconst 0, 1, 0, []) (List.mem_of_getElem? (i := 49) rfl)) rfl rfl ?_
            have ez0 : (zp_n u.2.1) tn 3 = wk := hwk
            refine zp_zret (pc := 95) (n := 0) hx hb hE hQ hU5 rfl (by decide) (zd_X11_addWorkOfRow (95, .ireturn, 1, 0, []) (List.mem_of_getElem? (i := 50) rfl)) (j := 0) rfl (zp_o0 (by omega) (by omega) (by omega) (by omega)) ?_
            rw [hps]
            refine ⟨by first | rfl | assumption, ?_⟩
            show (zR_b (fun j => zp_n u.2.1 (zp_n u.2.1 (zp_n u.2.1 a 8).toNat 0).toNat (2000 + j)) (zp_n u.2.1 (zp_n u.2.1 a 8).toNat 1) (zp_n u.2.1 (zp_n u.2.1 a 0).toNat 1) (zp_n u.2.1 (zp_n u.2.1 a 0).toNat 3) i1 = true → 0 = 1 ∧ (zp_n u.2.1) (zp_n u.2.1 a 0).toNat 3 = zp_n u.2.1 (zp_n u.2.1 a 0).toNat 3 + 1) ∧ (zR_b (fun j => zp_n u.2.1 (zp_n u.2.1 (zp_n u.2.1 a 8).toNat 0).toNat (2000 + j)) (zp_n u.2.1 (zp_n u.2.1 a 8).toNat 1) (zp_n u.2.1 (zp_n u.2.1 a 0).toNat 1) (zp_n u.2.1 (zp_n u.2.1 a 0).toNat 3) i1 = false → 0 = 0 ∧ (zp_n u.2.1) (zp_n u.2.1 a 0).toNat 3 = zp_n u.2.1 (zp_n u.2.1 a 0).toNat 3)
            rw [htt, htu, htv, hln, hpe]
            have hzb : zR_b (fun j => zp_n u.2.1 tb (2000 + j)) ln pe (zp_n u.2.1 tn 3) i1 = true ↔ ((i1 : Int) + 3 < ln ∧ 0 ≤ zp_n u.2.1 tb (2000 + i1) ∧ zp_n u.2.1 tb (2000 + i1) < pe ∧ 1 ≤ zp_n u.2.1 tb (2000 + (i1 + 1)) ∧ 0 ≤ zp_n u.2.1 tb (2000 + (i1 + 2)) ∧ zp_n u.2.1 tb (2000 + (i1 + 2)) ≤ 23 ∧ 1 ≤ zp_n u.2.1 tb (2000 + (i1 + 3)) ∧ zp_n u.2.1 tb (2000 + (i1 + 3)) ≤ 99 ∧ zp_n u.2.1 tn 3 < 10) := decide_eq_true_iff
            generalize zR_b (fun j => zp_n u.2.1 tb (2000 + j)) ln pe (zp_n u.2.1 tn 3) i1 = zb at hzb ⊢
            refine ⟨fun e => ?_, fun e => ?_⟩
            · have := hzb.mp e
              omega
            · have := mt hzb.mpr (by rw [e]; decide)
              omega
