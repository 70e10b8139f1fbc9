/-! part 8azb: the class: person, work, row, sight, forget, dust, feed -/
noncomputable def zK_iwn : zk_K := (zt_mn 15, prog_1_method_55_code, 3, (Option.some Jvm.ClassFile.FieldType.boolean), 0, 11, [(0, 0, (-2147483648), 2147483647), (0, 0, (-2147483648), 2147483647), (0, 0, (-2147483648), 2147483647)], [(some (0, 0, 0, 1), [])], [], (0, 0, 0, 0))
noncomputable def zψ_iwn : (Nat → Option Nat) → (Nat → Nat → Int) → List Int → (Nat → Option Nat) → (Nat → Nat → Int) → Int → Prop := fun P G ps P' G' rn => P' = P ∧ G' = G ∧ (rn = 1 ↔ ps.getD 1 0 ≤ ps.getD 0 0 ∧ ps.getD 0 0 ≤ ps.getD 2 0)
theorem zX_iwn {l : Launch} {w : zk_W} (hW : zh_W w) : zk_metX l w zt_dv zt_TB zK_iwn (zp_A zp_tA) (zp_B zψ_iwn) ∧ zk_cok w zt_TB zK_iwn := by
  refine zp_methX (cn := "WoundTown") zp_lkallW hW (pl := 607) rfl (by decide +kernel) (fun p e R s m args below meth c Q u hx hb hE hQ hU5 heff hnL hok hφ => ?_)
  have hw := hW.1
  obtain ⟨p0, p1, p2, hps, k0, k1, k2⟩ := zp_ps3 hok
  have hrm : zk_Kr (zk_ev (zt_types, zp_lkW, zt_dv, [], [], zp_lcW, zK_iwn)) = zk_Kr zK_iwn := rfl
  rw [hps] at hφ ⊢
  have hi0 := zp_int k0
  have hi1 := zp_int k1
  have hi2 := zp_int k2
  show zp_J p l e R s m args below meth c Q w u [] 0 [(0, 0, p0), (1, 0, p1), (2, 0, p2)] [] u.1 (zp_n u.2.1)
  refine zp_load (pc := 0) hx hb (zd_X11_isWithin (0, .iload_n 0, 1, 0, []) (List.mem_of_getElem? (i := 0) rfl)) rfl (j := 0) rfl ?_
  refine zp_load (pc := 1) hx hb (zd_X11_isWithin (1, .iload_n 1, 1, 0, []) (List.mem_of_getElem? (i := 1) rfl)) rfl (j := 1) rfl ?_
  refine zp_icmp (pc := 2) (tgt := 14) hx hb (zd_X11_isWithin (2, .if_icmp .lt 12, 3, 0, []) (List.mem_of_getElem? (i := 2) rfl)) rfl (fun (hc21 : p0 < p1) => ?_) (fun (hc21 : ¬ (p0 < p1)) => ?_)
  · refine zp_const (pc := 14) hx hb (zd_X11_isWithin (14, .iconst 0, 1, 0, []) (List.mem_of_getElem? (i := 8) rfl)) rfl rfl ?_
    refine zp_zret (pc := 15) (n := 0) hx hb hE hQ hU5 rfl (by decide) (zd_X11_isWithin (15, .ireturn, 1, 0, []) (List.mem_of_getElem? (i := 9) rfl)) (j := 0) rfl (zp_o0 (by omega) (by omega) (by omega) (by omega)) ?_
    rw [hps]
    refine ⟨rfl, rfl, ?_⟩
    show (0 = 1 ↔ p1 ≤ p0 ∧ p0 ≤ p2)
    omega
  · refine zp_load (pc := 5) hx hb (zd_X11_isWithin (5, .iload_n 0, 1, 0, []) (List.mem_of_getElem? (i := 3) rfl)) rfl (j := 0) rfl ?_
    refine zp_load (pc := 6) hx hb (zd_X11_isWithin (6, .iload_n 2, 1, 0, []) (List.mem_of_getElem? (i := 4) rfl)) rfl (j := 2) rfl ?_
    refine zp_icmp (pc := 7) (tgt := 14) hx hb (zd_X11_isWithin (7, .if_icmp .gt 7, 3, 0, []) (List.mem_of_getElem? (i := 5) rfl)) rfl (fun (hc22 : p2 < p0) => ?_) (fun (hc22 : ¬ (p2 < p0)) => ?_)
    · refine zp_const (pc := 14) hx hb (zd_X11_isWithin (14, .iconst 0, 1, 0, []) (List.mem_of_getElem? (i := 8) rfl)) rfl rfl ?_
      refine zp_zret (pc := 15) (n := 0) hx hb hE hQ hU5 rfl (by decide) (zd_X11_isWithin (15, .ireturn, 1, 0, []) (List.mem_of_getElem? (i := 9) rfl)) (j := 0) rfl (zp_o0 (by omega) (by omega) (by omega) (by omega)) ?_
      rw [hps]
      refine ⟨rfl, rfl, ?_⟩
      show (0 = 1 ↔ p1 ≤ p0 ∧ p0 ≤ p2)
      omega
    · refine zp_const (pc := 10) hx hb (zd_X11_isWithin (10, .iconst 1, 1, 0, []) (List.mem_of_getElem? (i := 6) rfl)) rfl rfl ?_
      refine zp_goto (tgt := 15) (pc := 11) hx hb (zd_X11_isWithin (11, .goto 4, 3, 0, []) (List.mem_of_getElem? (i := 7) rfl)) rfl ?_
      refine zp_zret (pc := 15) (n := 1) hx hb hE hQ hU5 rfl (by decide) (zd_X11_isWithin (15, .ireturn, 1, 0, []) (List.mem_of_getElem? (i := 9) rfl)) (j := 0) rfl (zp_o0 (by omega) (by omega) (by omega) (by omega)) ?_
      rw [hps]
      refine ⟨rfl, rfl, ?_⟩
      show (1 = 1 ↔ p1 ≤ p0 ∧ p0 ≤ p2)
      omega
noncomputable def zK_bya : zk_K := (zt_mn 37, prog_9_method_4_code, 2, (Option.some Jvm.ClassFile.FieldType.int), 1, 7, [(2, 7, 0, 0), (0, 0, 0, 1000)], [(some (0, 0, (-2147483648), 2147483647), [])], [], (0, 0, 0, 0))
noncomputable def zψ_bya : (Nat → Option Nat) → (Nat → Nat → Int) → List Int → (Nat → Option Nat) → (Nat → Nat → Int) → Int → Prop := fun P G ps P' G' rn => P' = P ∧ G' = G ∧ ∀ i : Nat, ps.getD 1 0 = (i : Int) → ((i : Int) < G (zp_0 ps) 1 → rn = G (G (zp_0 ps) 0).toNat (2000 + i)) ∧ (¬ ((i : Int) < G (zp_0 ps) 1) → rn = -1)
theorem zX_bya {l : Launch} {w : zk_W} (hW : zh_W w) : zk_metX l w zt_dv zt_TB zK_bya (zp_A zp_tA) (zp_B zψ_bya) ∧ zk_cok w zt_TB zK_bya := by
  refine zp_methX (cn := "WoundTown$Tape") zp_lkallT hW (pl := 696) rfl (by decide +kernel) (fun p e R s m args below meth c Q u hx hb hE hQ hU5 heff hnL hok hφ => ?_)
  have hw := hW.1
  obtain ⟨p0, p1, hps, k0, k1⟩ := zp_ps2 hok
  obtain ⟨a, rfl, hp⟩ := zp_this k0
  have hrm : zk_Kr (zk_ev (zt_types, zp_lkT, zt_dv, [], [], zp_lcT, zK_bya)) = zk_Kr zK_bya := rfl
  rw [hps] at hφ ⊢
  have hi1 := zp_int k1
  show zp_J p l e R s m args below meth c Q w u [] 0 [(0, 2, (a : Int)), (1, 0, p1)] [] u.1 (zp_n u.2.1)
  refine zp_kn (k := 0) (a := a) hw (show zp_fd 7 0 = some (7, 2, 29, 0, 0) from rfl) rfl hp (fun hktb => ?_)
  obtain ⟨tb, htb, qtb⟩ := zp_this hktb
  refine zp_kn (k := 1) (a := a) hw (show zp_fd 7 1 = some (7, 0, 0, 0, 400) from rfl) rfl hp (fun hkln => ?_)
  obtain ⟨ln, hln⟩ := zp_nat (zp_int hkln).1
  have hlnb := zp_int hkln
  rw [hln] at hlnb
  obtain ⟨i1, rfl⟩ := zp_nat hi1.1
  have htt : (zp_n u.2.1 a 0).toNat = tb := by rw [htb, Int.toNat_natCast]
  show zp_J p l e R s m args below meth c Q w u [] 0 [(0, 2, (a : Int)), (1, 0, (i1 : Int))] [] u.1 (zp_n u.2.1)
  refine zp_load (pc := 0) hx hb (zd_X7_byteAt (0, .iload_n 1, 1, 0, []) (List.mem_of_getElem? (i := 0) rfl)) rfl (j := 1) rfl ?_
  refine zp_if (pc := 1) (tgt := 28) hx hb (zd_X7_byteAt (1, .ifCond .lt 27, 3, 0, []) (List.mem_of_getElem? (i := 1) rfl)) rfl (fun (hc47 : (i1 : Int) < 0) => ?_) (fun (hc47 : ¬ ((i1 : Int) < 0)) => ?_)
  · refine zp_const (pc := 28) hx hb (zd_X7_byteAt (28, .iconst (-1), 1, 0, []) (List.mem_of_getElem? (i := 14) rfl)) rfl rfl ?_
    refine zp_iret (pc := 29) (n := (-1)) hx hb hE hQ hU5 rfl (by decide) (zd_X7_byteAt (29, .ireturn, 1, 0, []) (List.mem_of_getElem? (i := 15) rfl)) (j := 0) rfl (zp_o0 (by omega) (by omega) (by omega) (by omega)) ?_
    rw [hps]
    refine ⟨rfl, rfl, fun i hi => ?_⟩
    have hi : (i1 : Int) = (i : Int) := hi
    obtain rfl : i = i1 := by omega
    show ((i : Int) < zp_n u.2.1 a 1 → (-1) = zp_n u.2.1 (zp_n u.2.1 a 0).toNat (2000 + i)) ∧ (¬ ((i : Int) < zp_n u.2.1 a 1) → (-1) = -1)
    rw [htt]
    omega
  · refine zp_load (pc := 4) hx hb (zd_X7_byteAt (4, .iload_n 1, 1, 0, []) (List.mem_of_getElem? (i := 2) rfl)) rfl (j := 1) rfl ?_
    refine zp_load (pc := 5) hx hb (zd_X7_byteAt (5, .aload_n 0, 1, 0, []) (List.mem_of_getElem? (i := 3) rfl)) rfl (j := 0) rfl ?_
    refine zp_getf (n := (ln : Int)) (pc := 6) hx hb hE hw (zd_X7_byteAt (6, .getfield 15, 3, 0, []) (List.mem_of_getElem? (i := 4) rfl)) (j := 2) rfl rfl rfl hp hln ?_
    refine zp_icmp (pc := 9) (tgt := 28) hx hb (zd_X7_byteAt (9, .if_icmp .ge 19, 3, 0, []) (List.mem_of_getElem? (i := 5) rfl)) rfl (fun (hc48 : (ln : Int) ≤ (i1 : Int)) => ?_) (fun (hc48 : ¬ ((ln : Int) ≤ (i1 : Int))) => ?_)
    · refine zp_const (pc := 28) hx hb (zd_X7_byteAt (28, .iconst (-1), 1, 0, []) (List.mem_of_getElem? (i := 14) rfl)) rfl rfl ?_
      refine zp_iret (pc := 29) (n := (-1)) hx hb hE hQ hU5 rfl (by decide) (zd_X7_byteAt (29, .ireturn, 1, 0, []) (List.mem_of_getElem? (i := 15) rfl)) (j := 0) rfl (zp_o0 (by omega) (by omega) (by omega) (by omega)) ?_
      rw [hps]
      refine ⟨rfl, rfl, fun i hi => ?_⟩
      have hi : (i1 : Int) = (i : Int) := hi
      obtain rfl : i = i1 := by omega
      show ((i : Int) < zp_n u.2.1 a 1 → (-1) = zp_n u.2.1 (zp_n u.2.1 a 0).toNat (2000 + i)) ∧ (¬ ((i : Int) < zp_n u.2.1 a 1) → (-1) = -1)
      rw [htt]
      omega
    · refine zp_load (pc := 12) hx hb (zd_X7_byteAt (12, .iload_n 1, 1, 0, []) (List.mem_of_getElem? (i := 6) rfl)) rfl (j := 1) rfl ?_
      refine zp_const (pc := 13) hx hb (zd_X7_byteAt (13, .sipush 400, 3, 0, []) (List.mem_of_getElem? (i := 7) rfl)) rfl rfl ?_
      refine zp_icmp (pc := 16) (tgt := 28) hx hb (zd_X7_byteAt (16, .if_icmp .ge 12, 3, 0, []) (List.mem_of_getElem? (i := 8) rfl)) rfl (fun (hc49 : 400 ≤ (i1 : Int)) => ?_) (fun (hc49 : ¬ (400 ≤ (i1 : Int))) => ?_)
      · refine zp_const (pc := 28) hx hb (zd_X7_byteAt (28, .iconst (-1), 1, 0, []) (List.mem_of_getElem? (i := 14) rfl)) rfl rfl ?_
        refine zp_iret (pc := 29) (n := (-1)) hx hb hE hQ hU5 rfl (by decide) (zd_X7_byteAt (29, .ireturn, 1, 0, []) (List.mem_of_getElem? (i := 15) rfl)) (j := 0) rfl (zp_o0 (by omega) (by omega) (by omega) (by omega)) ?_
        rw [hps]
        refine ⟨rfl, rfl, fun i hi => ?_⟩
        have hi : (i1 : Int) = (i : Int) := hi
        obtain rfl : i = i1 := by omega
        show ((i : Int) < zp_n u.2.1 a 1 → (-1) = zp_n u.2.1 (zp_n u.2.1 a 0).toNat (2000 + i)) ∧ (¬ ((i : Int) < zp_n u.2.1 a 1) → (-1) = -1)
        rw [htt]
        omega
      · refine zp_load (pc := 19) hx hb (zd_X7_byteAt (19, .aload_n 0, 1, 0, []) (List.mem_of_getElem? (i := 9) rfl)) rfl (j := 0) rfl ?_
        refine zp_getf (n := (tb : Int)) (pc := 20) hx hb hE hw (zd_X7_byteAt (20, .getfield 11, 3, 0, []) (List.mem_of_getElem? (i := 10) rfl)) (j := 1) rfl rfl rfl hp htb ?_
        refine zp_load (pc := 23) hx hb (zd_X7_byteAt (23, .iload_n 1, 1, 0, []) (List.mem_of_getElem? (i := 11) rfl)) rfl (j := 1) rfl ?_
        refine zp_iald (j := i1) (v := ((zp_n u.2.1) tb (2000 + i1))) (pc := 24) hx hb hw (zd_X7_byteAt (24, .iaload, 1, 0, []) (List.mem_of_getElem? (i := 12) rfl)) (show zp_ia 1 29 = some (400, 0, 0, (-2147483648), 2147483647) from rfl) qtb (by omega) (by omega) rfl (fun hk50 => ?_)
        have hk50b := zp_int hk50
        refine zp_goto (tgt := 29) (pc := 25) hx hb (zd_X7_byteAt (25, .goto 4, 3, 0, []) (List.mem_of_getElem? (i := 13) rfl)) rfl ?_
        refine zp_iret (pc := 29) (n := ((zp_n u.2.1) tb (2000 + i1))) hx hb hE hQ hU5 rfl (by decide) (zd_X7_byteAt (29, .ireturn, 1, 0, []) (List.mem_of_getElem? (i := 15) rfl)) (j := 0) rfl (zp_o0 (by omega) (by omega) (by omega) (by omega)) ?_
        rw [hps]
        refine ⟨rfl, rfl, fun i hi => ?_⟩
        have hi : (i1 : Int) = (i : Int) := hi
        obtain rfl : i = i1 := by omega
        show ((i : Int) < zp_n u.2.1 a 1 → ((zp_n u.2.1) tb (2000 + i)) = zp_n u.2.1 (zp_n u.2.1 a 0).toNat (2000 + i)) ∧ (¬ ((i : Int) < zp_n u.2.1 a 1) → ((zp_n u.2.1) tb (2000 + i)) = -1)
        rw [htt]
        omega