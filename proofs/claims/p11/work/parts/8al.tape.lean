/-! part 8al: feed, end, exactly -/
def zψ_fe2 : (Nat → Option Nat) → (Nat → Nat → Int) → List Int → (Nat → Option Nat) → (Nat → Nat → Int) → Int → Prop := fun P G ps P' G' rn => P' = P ∧ (G (zp_0 ps) 13 ≤ 380 → rn = G (zp_0 ps) 13 + 20 ∧ G' (zp_0 ps) 13 = G (zp_0 ps) 13 + 20) ∧ (¬ (G (zp_0 ps) 13 ≤ 380) → rn = -1 ∧ G' (zp_0 ps) 13 = G (zp_0 ps) 13)
theorem zX_fe2 {l : Launch} {w : zk_W} (hW : zh_W w) : zk_metX l w zt_dv zt_TB zK_fe (zp_A zp_tA) (zp_B zψ_fe2) ∧ zk_cok w zt_TB zK_fe := by
  refine zp_meth hW (pl := 1656) rfl (by decide +kernel) (fun p e R s m args below meth c Q u hx hb hE hQ hU5 heff hnL hok hφ => ?_)
  have hw := hW.1
  obtain ⟨p0, p1, p2, p3, p4, p5, hps, k0, k1, k2, k3, k4, k5⟩ := zp_ps6 hok
  obtain ⟨a, rfl, hp⟩ := zp_this k0
  have hrm : zk_Kr (zk_ev (zp_E zK_fe)) = zk_Kr zK_fe := rfl
  rw [hps] at hφ ⊢
  show zp_J p l e R s m args below meth c Q w u [] 0 [(0, 2, (a : Int)), (1, 0, p1), (2, 0, p2), (3, 0, p3), (4, 0, p4), (5, 0, p5)] [] u.1 (zp_n u.2.1)
  refine zp_kn (k := 13) (a := a) hw (show zp_fd 13 13 = some (12, 0, 0, 0, 400) from rfl) rfl hp (fun hk13 => ?_)
  obtain ⟨tp, htp⟩ := zp_nat (zp_int hk13).1
  have htpb := zp_int hk13
  rw [htp] at htpb
  refine zp_load (pc := 0) hx hb (zd_X12_feed (0, .aload_n 0, 1, 0, []) (List.mem_of_getElem? (i := 0) rfl)) rfl (j := 0) rfl ?_
  refine zp_const (pc := 1) hx hb (zd_X12_feed (1, .iconst 0, 1, 0, []) (List.mem_of_getElem? (i := 1) rfl)) rfl rfl ?_
  refine zp_putf (pc := 2) hx hb hE hw heff (zd_X12_feed (2, .putfield 161, 3, 0, []) (List.mem_of_getElem? (i := 2) rfl)) (j := 18) rfl rfl rfl hp (zp_o0 (by decide) (by decide) (by decide) (by decide)) ?_
  refine zp_load (pc := 5) hx hb (zd_X12_feed (5, .aload_n 0, 1, 0, []) (List.mem_of_getElem? (i := 3) rfl)) rfl (j := 0) rfl ?_
  refine zp_getf (n := (tp : Int)) (pc := 6) hx hb hE hw (zd_X12_feed (6, .getfield 228, 3, 0, []) (List.mem_of_getElem? (i := 4) rfl)) (j := 31) rfl rfl rfl hp ((zp_set_ne (Or.inr (by decide))).trans (htp)) ?_
  refine zp_const (pc := 9) hx hb (zd_X12_feed (9, .bipush 20, 2, 0, []) (List.mem_of_getElem? (i := 5) rfl)) rfl rfl ?_
  refine zp_add (n := ((tp : Int) + 20)) (pc := 11) hx hb (zd_X12_feed (11, .iadd, 1, 0, []) (List.mem_of_getElem? (i := 6) rfl)) (by omega) (zp_r0 (by omega) (by omega)) ?_
  refine zp_const (pc := 12) hx hb (zd_X12_feed (12, .sipush 400, 3, 0, []) (List.mem_of_getElem? (i := 7) rfl)) rfl rfl ?_
  refine zp_icmp (pc := 15) (tgt := 20) hx hb (zd_X12_feed (15, .if_icmp .le 5, 3, 0, []) (List.mem_of_getElem? (i := 8) rfl)) rfl (fun (hc198 : ((tp : Int) + 20) ≤ 400) => ?_) (fun (hc198 : ¬ (((tp : Int) + 20) ≤ 400)) => ?_)
  · refine zp_load (pc := 20) hx hb (zd_X12_feed (20, .aload_n 0, 1, 0, []) (List.mem_of_getElem? (i := 11) rfl)) rfl (j := 0) rfl ?_
    refine zp_load (pc := 21) hx hb (zd_X12_feed (21, .iload_n 1, 1, 0, []) (List.mem_of_getElem? (i := 12) rfl)) rfl (j := 1) rfl ?_
    have qf0 : (zp_set (zp_n u.2.1) a 0 0) a 13 = (tp : Int) := ((zp_set_ne (Or.inr (by decide))).trans (htp))
    refine zp_call (pc := 22) (how := 0) (idx := 234) (mi := 206) (S := []) hx hb hE hw heff hrm (zX_fo hW) rfl (j := 11) rfl rfl (by decide +kernel) (zd_X12_feed (22, .invokevirtual 234, 3, 0, []) (List.mem_of_getElem? (i := 13) rfl)) [(a : Int), p1] rfl ⟨zp_o2 hp, k1, trivial⟩ (Nat.le_of_ble_eq_true rfl) (show (zp_set (zp_n u.2.1) a 0 0) a 13 ≤ 396 by omega) (fun al hal rnf0 Pf0 Gf0 hextf0 hfrf0 hokf0 hcsf0 hpsif0 => ?_)
    obtain rfl := List.mem_singleton.mp hal
    obtain ⟨rfl, hf0⟩ := hpsif0
    have hf0 : Gf0 a 13 = (zp_set (zp_n u.2.1) a 0 0) a 13 + 4 := hf0
    have ef0 : Gf0 a 13 = ((tp : Int) + 4) := by omega
    refine zp_load (pc := 25) hx hb (zd_X12_feed (25, .aload_n 0, 1, 0, []) (List.mem_of_getElem? (i := 14) rfl)) rfl (j := 0) rfl ?_
    refine zp_load (pc := 26) hx hb (zd_X12_feed (26, .iload_n 2, 1, 0, []) (List.mem_of_getElem? (i := 15) rfl)) rfl (j := 2) rfl ?_
    have qf1 : Gf0 a 13 = ((tp : Int) + 4) := ef0
    refine zp_call (pc := 27) (how := 0) (idx := 234) (mi := 206) (S := []) hx hb hE hw heff hrm (zX_fo hW) rfl (j := 11) rfl rfl (by decide +kernel) (zd_X12_feed (27, .invokevirtual 234, 3, 0, []) (List.mem_of_getElem? (i := 16) rfl)) [(a : Int), p2] rfl ⟨zp_o2 hp, k2, trivial⟩ (Nat.le_of_ble_eq_true rfl) (show Gf0 a 13 ≤ 396 by omega) (fun al hal rnf1 Pf1 Gf1 hextf1 hfrf1 hokf1 hcsf1 hpsif1 => ?_)
    obtain rfl := List.mem_singleton.mp hal
    obtain ⟨rfl, hf1⟩ := hpsif1
    have hf1 : Gf1 a 13 = Gf0 a 13 + 4 := hf1
    have ef1 : Gf1 a 13 = ((tp : Int) + 8) := by omega
    refine zp_load (pc := 30) hx hb (zd_X12_feed (30, .aload_n 0, 1, 0, []) (List.mem_of_getElem? (i := 17) rfl)) rfl (j := 0) rfl ?_
    refine zp_load (pc := 31) hx hb (zd_X12_feed (31, .iload_n 3, 1, 0, []) (List.mem_of_getElem? (i := 18) rfl)) rfl (j := 3) rfl ?_
    have qf2 : Gf1 a 13 = ((tp : Int) + 8) := ef1
    refine zp_call (pc := 32) (how := 0) (idx := 234) (mi := 206) (S := []) hx hb hE hw heff hrm (zX_fo hW) rfl (j := 11) rfl rfl (by decide +kernel) (zd_X12_feed (32, .invokevirtual 234, 3, 0, []) (List.mem_of_getElem? (i := 19) rfl)) [(a : Int), p3] rfl ⟨zp_o2 hp, k3, trivial⟩ (Nat.le_of_ble_eq_true rfl) (show Gf1 a 13 ≤ 396 by omega) (fun al hal rnf2 Pf2 Gf2 hextf2 hfrf2 hokf2 hcsf2 hpsif2 => ?_)
    obtain rfl := List.mem_singleton.mp hal
    obtain ⟨rfl, hf2⟩ := hpsif2
    have hf2 : Gf2 a 13 = Gf1 a 13 + 4 := hf2
    have ef2 : Gf2 a 13 = ((tp : Int) + 12) := by omega
    refine zp_load (pc := 35) hx hb (zd_X12_feed (35, .aload_n 0, 1, 0, []) (List.mem_of_getElem? (i := 20) rfl)) rfl (j := 0) rfl ?_
    refine zp_load (pc := 36) hx hb (zd_X12_feed (36, .iload 4, 2, 0, []) (List.mem_of_getElem? (i := 21) rfl)) rfl (j := 4) rfl ?_
    have qf3 : Gf2 a 13 = ((tp : Int) + 12) := ef2
    refine zp_call (pc := 38) (how := 0) (idx := 234) (mi := 206) (S := []) hx hb hE hw heff hrm (zX_fo hW) rfl (j := 11) rfl rfl (by decide +kernel) (zd_X12_feed (38, .invokevirtual 234, 3, 0, []) (List.mem_of_getElem? (i := 22) rfl)) [(a : Int), p4] rfl ⟨zp_o2 hp, k4, trivial⟩ (Nat.le_of_ble_eq_true rfl) (show Gf2 a 13 ≤ 396 by omega) (fun al hal rnf3 Pf3 Gf3 hextf3 hfrf3 hokf3 hcsf3 hpsif3 => ?_)
    obtain rfl := List.mem_singleton.mp hal
    obtain ⟨rfl, hf3⟩ := hpsif3
    have hf3 : Gf3 a 13 = Gf2 a 13 + 4 := hf3
    have ef3 : Gf3 a 13 = ((tp : Int) + 16) := by omega
    refine zp_load (pc := 41) hx hb (zd_X12_feed (41, .aload_n 0, 1, 0, []) (List.mem_of_getElem? (i := 23) rfl)) rfl (j := 0) rfl ?_
    refine zp_load (pc := 42) hx hb (zd_X12_feed (42, .iload 5, 2, 0, []) (List.mem_of_getElem? (i := 24) rfl)) rfl (j := 5) rfl ?_
    have qf4 : Gf3 a 13 = ((tp : Int) + 16) := ef3
    refine zp_call (pc := 44) (how := 0) (idx := 234) (mi := 206) (S := []) hx hb hE hw heff hrm (zX_fo hW) rfl (j := 11) rfl rfl (by decide +kernel) (zd_X12_feed (44, .invokevirtual 234, 3, 0, []) (List.mem_of_getElem? (i := 25) rfl)) [(a : Int), p5] rfl ⟨zp_o2 hp, k5, trivial⟩ (Nat.le_of_ble_eq_true rfl) (show Gf3 a 13 ≤ 396 by omega) (fun al hal rnf4 Pf4 Gf4 hextf4 hfrf4 hokf4 hcsf4 hpsif4 => ?_)
    obtain rfl := List.mem_singleton.mp hal
    obtain ⟨rfl, hf4⟩ := hpsif4
    have hf4 : Gf4 a 13 = Gf3 a 13 + 4 := hf4
    have ef4 : Gf4 a 13 = ((tp : Int) + 20) := by omega
    refine zp_load (pc := 47) hx hb (zd_X12_feed (47, .aload_n 0, 1, 0, []) (List.mem_of_getElem? (i := 26) rfl)) rfl (j := 0) rfl ?_
    refine zp_getf (n := ((tp : Int) + 20)) (pc := 48) hx hb hE hw (zd_X12_feed (48, .getfield 228, 3, 0, []) (List.mem_of_getElem? (i := 27) rfl)) (j := 31) rfl rfl rfl hp ef4 ?_
    refine zp_iret (pc := 51) (n := ((tp : Int) + 20)) hx hb hE hQ hU5 rfl (by decide) (zd_X12_feed (51, .ireturn, 1, 0, []) (List.mem_of_getElem? (i := 28) rfl)) (j := 0) rfl (zp_o0 (by omega) (by omega) (by omega) (by omega)) ?_
    rw [hps]
    refine ⟨rfl, ?_⟩
    show (zp_n u.2.1 a 13 ≤ 380 → ((tp : Int) + 20) = zp_n u.2.1 a 13 + 20 ∧ Gf4 a 13 = zp_n u.2.1 a 13 + 20) ∧ (¬ (zp_n u.2.1 a 13 ≤ 380) → ((tp : Int) + 20) = -1 ∧ Gf4 a 13 = zp_n u.2.1 a 13)
    rw [ef4, htp]
    omega
  · refine zp_const (pc := 18) hx hb (zd_X12_feed (18, .iconst (-1), 1, 0, []) (List.mem_of_getElem? (i := 9) rfl)) rfl rfl ?_
    refine zp_iret (pc := 19) (n := (-1)) hx hb hE hQ hU5 rfl (by decide) (zd_X12_feed (19, .ireturn, 1, 0, []) (List.mem_of_getElem? (i := 10) rfl)) (j := 0) rfl (zp_o0 (by omega) (by omega) (by omega) (by omega)) ?_
    rw [hps]
    have ef4 : (zp_set (zp_n u.2.1) a 0 0) a 13 = (tp : Int) := (zp_set_ne (Or.inr (by decide))).trans htp
    refine ⟨rfl, ?_⟩
    show (zp_n u.2.1 a 13 ≤ 380 → (-1 : Int) = zp_n u.2.1 a 13 + 20 ∧ (zp_set (zp_n u.2.1) a 0 0) a 13 = zp_n u.2.1 a 13 + 20) ∧ (¬ (zp_n u.2.1 a 13 ≤ 380) → (-1 : Int) = -1 ∧ (zp_set (zp_n u.2.1) a 0 0) a 13 = zp_n u.2.1 a 13)
    rw [ef4, htp]
    omega
def zK_en2 : zk_K := (zt_mn 207, prog_14_method_34_code, 2, (Option.some Jvm.ClassFile.FieldType.int), 1, 12, [(2, 13, 0, 0), (0, 0, (-2147483648), 2147483647)], [(some (0, 0, (-1), 400), [])], [(13, 0, 0), (13, 13, 0)], (0, 0, 0, 0))
def zψ_en2 : (Nat → Option Nat) → (Nat → Nat → Int) → List Int → (Nat → Option Nat) → (Nat → Nat → Int) → Int → Prop := fun P G ps P' G' rn => P' = P ∧ (0 ≤ ps.getD 1 0 ∧ ps.getD 1 0 ≤ G (zp_0 ps) 13 → rn = ps.getD 1 0 ∧ G' (zp_0 ps) 13 = ps.getD 1 0) ∧ (¬ (0 ≤ ps.getD 1 0 ∧ ps.getD 1 0 ≤ G (zp_0 ps) 13) → rn = -1 ∧ G' (zp_0 ps) 13 = G (zp_0 ps) 13)
theorem zX_en2 {l : Launch} {w : zk_W} (hW : zh_W w) : zk_metX l w zt_dv zt_TB zK_en2 (zp_A zp_tA) (zp_B zψ_en2) ∧ zk_cok w zt_TB zK_en2 := by
  refine zp_meth hW (pl := 1664) rfl (by decide +kernel) (fun p e R s m args below meth c Q u hx hb hE hQ hU5 heff hnL hok hφ => ?_)
  have hw := hW.1
  obtain ⟨p0, p1, hps, k0, k1⟩ := zp_ps2 hok
  obtain ⟨a, rfl, hp⟩ := zp_this k0
  have hrm : zk_Kr (zk_ev (zp_E zK_en2)) = zk_Kr zK_en2 := rfl
  rw [hps] at hφ ⊢
  have hi1 := zp_int k1
  show zp_J p l e R s m args below meth c Q w u [] 0 [(0, 2, (a : Int)), (1, 0, p1)] [] u.1 (zp_n u.2.1)
  refine zp_kn (k := 13) (a := a) hw (show zp_fd 13 13 = some (12, 0, 0, 0, 400) from rfl) rfl hp (fun hk13 => ?_)
  have hx13b := zp_int hk13
  obtain ⟨n0, hn0⟩ : ∃ n0 : Int, zp_n u.2.1 a 13 = n0 := ⟨_, rfl⟩
  rw [hn0] at hx13b
  refine zp_load (pc := 0) hx hb (zd_X12_end (0, .aload_n 0, 1, 0, []) (List.mem_of_getElem? (i := 0) rfl)) rfl (j := 0) rfl ?_
  refine zp_const (pc := 1) hx hb (zd_X12_end (1, .iconst 0, 1, 0, []) (List.mem_of_getElem? (i := 1) rfl)) rfl rfl ?_
  refine zp_putf (pc := 2) hx hb hE hw heff (zd_X12_end (2, .putfield 161, 3, 0, []) (List.mem_of_getElem? (i := 2) rfl)) (j := 18) rfl rfl rfl hp (zp_o0 (by decide) (by decide) (by decide) (by decide)) ?_
  refine zp_load (pc := 5) hx hb (zd_X12_end (5, .iload_n 1, 1, 0, []) (List.mem_of_getElem? (i := 3) rfl)) rfl (j := 1) rfl ?_
  refine zp_if (pc := 6) (tgt := 17) hx hb (zd_X12_end (6, .ifCond .lt 11, 3, 0, []) (List.mem_of_getElem? (i := 4) rfl)) rfl (fun (hc192 : p1 < 0) => ?_) (fun (hc192 : ¬ (p1 < 0)) => ?_)
  · refine zp_const (pc := 17) hx hb (zd_X12_end (17, .iconst (-1), 1, 0, []) (List.mem_of_getElem? (i := 9) rfl)) rfl rfl ?_
    refine zp_iret (pc := 18) (n := (-1)) hx hb hE hQ hU5 rfl (by decide) (zd_X12_end (18, .ireturn, 1, 0, []) (List.mem_of_getElem? (i := 10) rfl)) (j := 0) rfl (zp_o0 (by omega) (by omega) (by omega) (by omega)) ?_
    rw [hps]
    have e13 : (zp_set (zp_n u.2.1) a 0 0) a 13 = n0 := ((zp_set_ne (Or.inr (by decide))).trans (hn0))
    refine ⟨rfl, ?_⟩
    show (0 ≤ p1 ∧ p1 ≤ zp_n u.2.1 a 13 → (-1) = p1 ∧ (zp_set (zp_n u.2.1) a 0 0) a 13 = p1) ∧ (¬ (0 ≤ p1 ∧ p1 ≤ zp_n u.2.1 a 13) → (-1) = -1 ∧ (zp_set (zp_n u.2.1) a 0 0) a 13 = zp_n u.2.1 a 13)
    rw [e13, hn0]
    omega
  · refine zp_load (pc := 9) hx hb (zd_X12_end (9, .iload_n 1, 1, 0, []) (List.mem_of_getElem? (i := 5) rfl)) rfl (j := 1) rfl ?_
    refine zp_load (pc := 10) hx hb (zd_X12_end (10, .aload_n 0, 1, 0, []) (List.mem_of_getElem? (i := 6) rfl)) rfl (j := 0) rfl ?_
    refine zp_getf (n := n0) (pc := 11) hx hb hE hw (zd_X12_end (11, .getfield 228, 3, 0, []) (List.mem_of_getElem? (i := 7) rfl)) (j := 31) rfl rfl rfl hp ((zp_set_ne (Or.inr (by decide))).trans (hn0)) ?_
    refine zp_icmp (pc := 14) (tgt := 19) hx hb (zd_X12_end (14, .if_icmp .le 5, 3, 0, []) (List.mem_of_getElem? (i := 8) rfl)) rfl (fun (hc193 : p1 ≤ n0) => ?_) (fun (hc193 : ¬ (p1 ≤ n0)) => ?_)
    · refine zp_load (pc := 19) hx hb (zd_X12_end (19, .aload_n 0, 1, 0, []) (List.mem_of_getElem? (i := 11) rfl)) rfl (j := 0) rfl ?_
      refine zp_load (pc := 20) hx hb (zd_X12_end (20, .iload_n 1, 1, 0, []) (List.mem_of_getElem? (i := 12) rfl)) rfl (j := 1) rfl ?_
      refine zp_putf (pc := 21) hx hb hE hw heff (zd_X12_end (21, .putfield 228, 3, 0, []) (List.mem_of_getElem? (i := 13) rfl)) (j := 31) rfl rfl rfl hp (zp_o0 (by omega) (by omega) (by omega) (by omega)) ?_
      refine zp_load (pc := 24) hx hb (zd_X12_end (24, .iload_n 1, 1, 0, []) (List.mem_of_getElem? (i := 14) rfl)) rfl (j := 1) rfl ?_
      refine zp_iret (pc := 25) (n := p1) hx hb hE hQ hU5 rfl (by decide) (zd_X12_end (25, .ireturn, 1, 0, []) (List.mem_of_getElem? (i := 15) rfl)) (j := 0) rfl (zp_o0 (by omega) (by omega) (by omega) (by omega)) ?_
      rw [hps]
      have e13 : (zp_set (zp_set (zp_n u.2.1) a 0 0) a 13 p1) a 13 = p1 := zp_set_self
      refine ⟨rfl, ?_⟩
      show (0 ≤ p1 ∧ p1 ≤ zp_n u.2.1 a 13 → p1 = p1 ∧ (zp_set (zp_set (zp_n u.2.1) a 0 0) a 13 p1) a 13 = p1) ∧ (¬ (0 ≤ p1 ∧ p1 ≤ zp_n u.2.1 a 13) → p1 = -1 ∧ (zp_set (zp_set (zp_n u.2.1) a 0 0) a 13 p1) a 13 = zp_n u.2.1 a 13)
      rw [e13, hn0]
      omega
    · refine zp_const (pc := 17) hx hb (zd_X12_end (17, .iconst (-1), 1, 0, []) (List.mem_of_getElem? (i := 9) rfl)) rfl rfl ?_
      refine zp_iret (pc := 18) (n := (-1)) hx hb hE hQ hU5 rfl (by decide) (zd_X12_end (18, .ireturn, 1, 0, []) (List.mem_of_getElem? (i := 10) rfl)) (j := 0) rfl (zp_o0 (by omega) (by omega) (by omega) (by omega)) ?_
      rw [hps]
      have e13 : (zp_set (zp_n u.2.1) a 0 0) a 13 = n0 := ((zp_set_ne (Or.inr (by decide))).trans (hn0))
      refine ⟨rfl, ?_⟩
      show (0 ≤ p1 ∧ p1 ≤ zp_n u.2.1 a 13 → (-1) = p1 ∧ (zp_set (zp_n u.2.1) a 0 0) a 13 = p1) ∧ (¬ (0 ≤ p1 ∧ p1 ≤ zp_n u.2.1 a 13) → (-1) = -1 ∧ (zp_set (zp_n u.2.1) a 0 0) a 13 = zp_n u.2.1 a 13)
      rw [e13, hn0]
      omega
def zp_lkT : List zk_L := zt_lk_WoundTown_Tape.map (fun r => r.1)
def zp_lcT : List (Nat × Nat × Nat) := zt_lc_WoundTown_Tape.map (fun r => r.1)
def zp_ET (K : zk_K) : zk_Ev := (zt_types, zp_lkT, zt_dv, [], [], zp_lcT, K)
theorem zp_lkallT : (zp_lkT.all (zt_lkin "WoundTown$Tape") && zp_lcT.all (zt_lcin "WoundTown$Tape")) = true := by decide +kernel
theorem zp_methT {l : Launch} {w : zk_W} (hW : zh_W w) {K : zk_K} {pl : Nat} {φ : (Nat → Option Nat) → (Nat → Nat → Int) → List Int → Prop} {ψ : (Nat → Option Nat) → (Nat → Nat → Int) → List Int → (Nat → Option Nat) → (Nat → Nat → Int) → Int → Prop} (hcls : K.1.cls = "WoundTown$Tape") (hb0 : (zt_cokb pl K && (zk_e0b (zp_ET K) && (zk_Kk K != 2 && (zk_Kp K).all (fun f => decide (f.1 ≤ 2))))) = true)
    (hJ : ∀ (p : Program) (e : Env) (R : Room) (s : State) (m : MethodId) (args : Array Value) (below : List Frame) (meth : Method) (c : Code) (Q : State → Prop) (u : zk_M), p.tables.exec = Jvm.exec → c.code = K.2.1 → zk_ctx l R s m args meth c w u zt_TB "WoundTown$Tape" zt_TB zt_mn (zp_ET K) → Q = MQ below (fun _ st o t => zk_postX w K (zp_B ψ) u.1 u.2.1 u.2.2.1 st t o) args s (zk_Kr K).2.2.1 (zk_Kr K).2.2.2 (fun q => w.2.2.2.1 ≤ q) → u.2.2.2.2.1 = [] → u.2.2.2.1 = zk_Ke K → u.2.2.2.2.2.1 = K.2.2.1 → zk_all2 (zk_ok u.1) (zk_Kp K) u.2.2.1 → φ u.1 (zp_n u.2.1) u.2.2.1 → zp_J p l e R s m args below meth c Q w u [] 0 (zp_L0 0 (zk_Kp K) u.2.2.1) [] u.1 (zp_n u.2.1)) : zk_metX l w zt_dv zt_TB K (zp_A φ) (zp_B ψ) ∧ zk_cok w zt_TB K := by
  simp only [Bool.and_eq_true] at hb0
  obtain ⟨b1, b2, b3, b4⟩ := hb0
  rw [bne_iff_ne] at b3
  have hall := zp_lkallT
  refine zh_methH hW (lk := zp_lkT) (KS := []) (km := []) (lc := zp_lcT) (K := K) (pl := pl) (A := zp_A φ) (B := zp_B ψ) b3 b2 (by rw [hcls]; simp only [Bool.and_eq_true] at hall ⊢; exact ⟨b1, by decide, hall.1, hall.2⟩) (fun K h => absurd h List.not_mem_nil) (fun p e R s m args below meth c Q P0 G0 ps X hx hb hA hps hE hQ H locs ls hG => ?_)
  have hE1 := hE [] P0 G0 (zk_Ke K) (zk_Ka K) ps (zk_Kp K) (zk_all2_len hps).symm (fun _ _ h => h)
  rw [show (zk_ev (zt_types, zp_lkT, zt_dv, ([] : List zk_K), ([] : List Nat), zp_lcT, K)).1.cls = "WoundTown$Tape" from hcls] at hE1
  have hJ1 := hJ p e R s m args below meth c Q (P0, G0, ps, zk_Ke K, [], K.2.2.1, X) hx hb hE1 hQ rfl rfl rfl hps hA
  obtain ⟨h1, h2, h3, h4, h5, ⟨lv, h6a, h6b⟩, h7, h8, h9, h10, h11, h12, h13⟩ := hG
  have hlv := zp_L0_ok (fs := zk_Kp K) (ps := ps) (i := 0) (j := 3) (zk_all2_len hps) (fun t f h => by
    show (zk_V0 ++ zk_Kp K)[3 + t]? = some f
    rw [List.getElem?_append_right (by show 3 ≤ 3 + t; omega)]
    show (zk_Kp K)[3 + t - 3]? = some f
    rw [show 3 + t - 3 = t by omega]
    exact h) (fun t n h => by
    rw [List.getElem?_append_right (by show 3 ≤ 3 + t; omega)]
    show ps[3 + t - 3]? = some n
    rw [show 3 + t - 3 = t by omega]
    exact h) h6b
  rw [hlv] at h6a
  exact hJ1 G0 H locs ls rfl ⟨zp_wt.of h5, h7, h8, h9, h13⟩ h6a (zp_ks b4 hps) (fun q h => absurd h List.not_mem_nil)
def zK_rf : zk_K := (zt_mn 32, prog_9_method_2_code, 2, (Option.some Jvm.ClassFile.FieldType.boolean), 1, 7, [(2, 7, 0, 0), (0, 0, 0, 400)], [(some (0, 0, 0, 1), [])], [], (0, 0, 0, 0))
def zψ_rf : (Nat → Option Nat) → (Nat → Nat → Int) → List Int → (Nat → Option Nat) → (Nat → Nat → Int) → Int → Prop := fun P G ps P' G' rn => P' = P ∧ G' = G ∧ (rn = 1 ↔ G (zp_0 ps) 1 + ps.getD 1 0 ≤ 400)
theorem zX_rf {l : Launch} {w : zk_W} (hW : zh_W w) : zk_metX l w zt_dv zt_TB zK_rf (zp_A zp_tA) (zp_B zψ_rf) ∧ zk_cok w zt_TB zK_rf := by
  refine zp_methT hW (pl := 676) rfl (by decide +kernel) (fun p e R s m args below meth c Q u hx hb hE hQ hU5 heff hnL hok hφ => ?_)
  have hw := hW.1
  obtain ⟨p0, p1, hps, k0, k1⟩ := zp_ps2 hok
  obtain ⟨a, rfl, hp⟩ := zp_this k0
  have hrm : zk_Kr (zk_ev (zp_ET zK_rf)) = zk_Kr zK_rf := rfl
  rw [hps] at hφ ⊢
  have hi1 := zp_int k1
  show zp_J p l e R s m args below meth c Q w u [] 0 [(0, 2, (a : Int)), (1, 0, p1)] [] u.1 (zp_n u.2.1)
  refine zp_kn (k := 1) (a := a) hw (show zp_fd 7 1 = some (7, 0, 0, 0, 400) from rfl) rfl hp (fun hk1 => ?_)
  have hx1 := zp_int hk1
  refine zp_load (pc := 0) hx hb (zd_X7_hasRoomFor (0, .aload_n 0, 1, 0, []) (List.mem_of_getElem? (i := 0) rfl)) rfl (j := 0) rfl ?_
  refine zp_getf (n := ((zp_n u.2.1) a 1)) (pc := 1) hx hb hE hw (zd_X7_hasRoomFor (1, .getfield 15, 3, 0, []) (List.mem_of_getElem? (i := 1) rfl)) (j := 2) rfl rfl rfl hp rfl ?_
  refine zp_const (pc := 4) hx hb (zd_X7_hasRoomFor (4, .sipush 400, 3, 0, []) (List.mem_of_getElem? (i := 2) rfl)) rfl rfl ?_
  refine zp_load (pc := 7) hx hb (zd_X7_hasRoomFor (7, .iload_n 1, 1, 0, []) (List.mem_of_getElem? (i := 3) rfl)) rfl (j := 1) rfl ?_
  refine zp_sub (n := (400 - p1)) (pc := 8) hx hb (zd_X7_hasRoomFor (8, .isub, 1, 0, []) (List.mem_of_getElem? (i := 4) rfl)) (by omega) (zp_r0 (by omega) (by omega)) ?_
  refine zp_icmp (pc := 9) (tgt := 16) hx hb (zd_X7_hasRoomFor (9, .if_icmp .gt 7, 3, 0, []) (List.mem_of_getElem? (i := 5) rfl)) rfl (fun (hc194 : (400 - p1) < ((zp_n u.2.1) a 1)) => ?_) (fun (hc194 : ¬ ((400 - p1) < ((zp_n u.2.1) a 1))) => ?_)
  · refine zp_const (pc := 16) hx hb (zd_X7_hasRoomFor (16, .iconst 0, 1, 0, []) (List.mem_of_getElem? (i := 8) rfl)) rfl rfl ?_
    refine zp_zret (pc := 17) (n := 0) hx hb hE hQ hU5 rfl (by decide) (zd_X7_hasRoomFor (17, .ireturn, 1, 0, []) (List.mem_of_getElem? (i := 9) rfl)) (j := 0) rfl (zp_o0 (by omega) (by omega) (by omega) (by omega)) ?_
    rw [hps]
    refine ⟨rfl, rfl, ?_⟩
    show (0 = 1 ↔ zp_n u.2.1 a 1 + p1 ≤ 400)
    omega
  · refine zp_const (pc := 12) hx hb (zd_X7_hasRoomFor (12, .iconst 1, 1, 0, []) (List.mem_of_getElem? (i := 6) rfl)) rfl rfl ?_
    refine zp_goto (tgt := 17) (pc := 13) hx hb (zd_X7_hasRoomFor (13, .goto 4, 3, 0, []) (List.mem_of_getElem? (i := 7) rfl)) rfl ?_
    refine zp_zret (pc := 17) (n := 1) hx hb hE hQ hU5 rfl (by decide) (zd_X7_hasRoomFor (17, .ireturn, 1, 0, []) (List.mem_of_getElem? (i := 9) rfl)) (j := 0) rfl (zp_o0 (by omega) (by omega) (by omega) (by omega)) ?_
    rw [hps]
    refine ⟨rfl, rfl, ?_⟩
    show (1 = 1 ↔ zp_n u.2.1 a 1 + p1 ≤ 400)
    omega
def zK_an : zk_K := (zt_mn 33, prog_9_method_3_code, 3, (Option.none : Option Jvm.ClassFile.FieldType), 1, 7, [(2, 7, 0, 0), (0, 0, (-2147483648), 2147483647)], [(none, [])], [(29, 1001, 0), (7, 1, 0)], (0, 0, 0, 0))
def zφ_an : (Nat → Option Nat) → (Nat → Nat → Int) → List Int → Prop := fun _ G ps => G (zp_0 ps) 1 ≤ 396
def zψ_an : (Nat → Option Nat) → (Nat → Nat → Int) → List Int → (Nat → Option Nat) → (Nat → Nat → Int) → Int → Prop := fun P G ps P' G' rn => P' = P ∧ G' (zp_0 ps) 1 = G (zp_0 ps) 1 + 4
theorem zX_an {l : Launch} {w : zk_W} (hW : zh_W w) : zk_metX l w zt_dv zt_TB zK_an (zp_A zφ_an) (zp_B zψ_an) ∧ zk_cok w zt_TB zK_an := by
  refine zp_methT hW (pl := 680) rfl (by decide +kernel) (fun p e R s m args below meth c Q u hx hb hE hQ hU5 heff hnL hok hφ => ?_)
  have hw := hW.1
  obtain ⟨p0, p1, hps, k0, k1⟩ := zp_ps2 hok
  obtain ⟨a, rfl, hp⟩ := zp_this k0
  have hrm : zk_Kr (zk_ev (zp_ET zK_an)) = zk_Kr zK_an := rfl
  rw [hps] at hφ ⊢
  have hi1 := zp_int k1
  have hφ : zp_n u.2.1 a 1 ≤ 396 := hφ
  show zp_J p l e R s m args below meth c Q w u [] 0 [(0, 2, (a : Int)), (1, 0, p1)] [] u.1 (zp_n u.2.1)
  refine zp_kn (k := 1) (a := a) hw (show zp_fd 7 1 = some (7, 0, 0, 0, 400) from rfl) rfl hp (fun hk1 => ?_)
  have hx1 := zp_int hk1
  refine zp_kn (k := 0) (a := a) hw (show zp_fd 7 0 = some (7, 2, 29, 0, 0) from rfl) rfl hp (fun hk0 => ?_)
  obtain ⟨b0, hb0, hq0⟩ := zp_this hk0
  obtain ⟨l0, hl0⟩ := zp_nat hx1.1
  rw [hl0] at hx1 hφ
  have loop : ∀ (n k : Nat) (G : Nat → Nat → Int), 4 - k < n → k ≤ 4 → G a 0 = (b0 : Int) → G a 1 = ((l0 + k : Nat) : Int) → zp_J p l e R s m args below meth c Q w u [] 3 [(2, 0, (24 - 8 * (k : Int))), (0, 2, (a : Int)), (1, 0, p1)] [] u.1 G := by
    intro n
    induction n with
    | zero => intro k G h; exact absurd h (Nat.not_lt_zero _)
    | succ n ih =>
      intro k G hn hk e0 e1
      obtain ⟨ln, hln⟩ : ∃ ln : Nat, l0 + k = ln := ⟨_, rfl⟩
      rw [hln] at e1
      refine zp_load (pc := 3) hx hb (zd_X7_addNumber (3, .iload_n 2, 1, 0, []) (List.mem_of_getElem? (i := 2) rfl)) rfl (j := 0) rfl ?_
      refine zp_if (pc := 4) (tgt := 56) hx hb (zd_X7_addNumber (4, .ifCond .lt 52, 3, 0, []) (List.mem_of_getElem? (i := 3) rfl)) rfl (fun (hc195 : (24 - 8 * (k : Int)) < 0) => ?_) (fun (hc195 : ¬ ((24 - 8 * (k : Int)) < 0)) => ?_)
      · have hk4 : k = 4 := by omega
        refine zp_vret (pc := 56) hx hb hE hQ hU5 rfl (by decide) (zd_X7_addNumber (56, .return_, 1, 0, []) (List.mem_of_getElem? (i := 29) rfl)) (j := 0) rfl ?_
        rw [hps]
        refine ⟨rfl, ?_⟩
        show G a 1 = zp_n u.2.1 a 1 + 4
        rw [e1, hl0]
        omega
      · refine zp_load (pc := 7) hx hb (zd_X7_addNumber (7, .aload_n 0, 1, 0, []) (List.mem_of_getElem? (i := 4) rfl)) rfl (j := 1) rfl ?_
        refine zp_getf (n := (ln : Int)) (pc := 8) hx hb hE hw (zd_X7_addNumber (8, .getfield 15, 3, 0, []) (List.mem_of_getElem? (i := 5) rfl)) (j := 2) rfl rfl rfl hp e1 ?_
        refine zp_if (pc := 11) (tgt := 50) hx hb (zd_X7_addNumber (11, .ifCond .lt 39, 3, 0, []) (List.mem_of_getElem? (i := 6) rfl)) rfl (fun (hc196 : (ln : Int) < 0) => ?_) (fun (hc196 : ¬ ((ln : Int) < 0)) => ?_)
        · refine zp_iinc (L' := [(2, 0, ((-8) * (k : Int) + 16)), (0, 2, (a : Int)), (1, 0, p1)]) (n := ((-8) * (k : Int) + 16)) (pc := 50) hx hb hnL (zd_X7_addNumber (50, .iinc 2 (-8), 3, 0, []) (List.mem_of_getElem? (i := 27) rfl)) (j := 0) rfl (by omega) (zp_r0 (by omega) (by omega)) rfl rfl ?_
          refine zp_goto (tgt := 3) (pc := 53) hx hb (zd_X7_addNumber (53, .goto (-50), 3, 0, []) (List.mem_of_getElem? (i := 28) rfl)) rfl ?_
          exfalso
          omega
        · refine zp_load (pc := 14) hx hb (zd_X7_addNumber (14, .aload_n 0, 1, 0, []) (List.mem_of_getElem? (i := 7) rfl)) rfl (j := 1) rfl ?_
          refine zp_getf (n := (ln : Int)) (pc := 15) hx hb hE hw (zd_X7_addNumber (15, .getfield 15, 3, 0, []) (List.mem_of_getElem? (i := 8) rfl)) (j := 2) rfl rfl rfl hp e1 ?_
          refine zp_const (pc := 18) hx hb (zd_X7_addNumber (18, .sipush 400, 3, 0, []) (List.mem_of_getElem? (i := 9) rfl)) rfl rfl ?_
          refine zp_icmp (pc := 21) (tgt := 50) hx hb (zd_X7_addNumber (21, .if_icmp .ge 29, 3, 0, []) (List.mem_of_getElem? (i := 10) rfl)) rfl (fun (hc197 : 400 ≤ (ln : Int)) => ?_) (fun (hc197 : ¬ (400 ≤ (ln : Int))) => ?_)
          · refine zp_iinc (L' := [(2, 0, ((-8) * (k : Int) + 16)), (0, 2, (a : Int)), (1, 0, p1)]) (n := ((-8) * (k : Int) + 16)) (pc := 50) hx hb hnL (zd_X7_addNumber (50, .iinc 2 (-8), 3, 0, []) (List.mem_of_getElem? (i := 27) rfl)) (j := 0) rfl (by omega) (zp_r0 (by omega) (by omega)) rfl rfl ?_
            refine zp_goto (tgt := 3) (pc := 53) hx hb (zd_X7_addNumber (53, .goto (-50), 3, 0, []) (List.mem_of_getElem? (i := 28) rfl)) rfl ?_
            exfalso
            omega
          · refine zp_load (pc := 24) hx hb (zd_X7_addNumber (24, .aload_n 0, 1, 0, []) (List.mem_of_getElem? (i := 11) rfl)) rfl (j := 1) rfl ?_
            refine zp_getf (n := (b0 : Int)) (pc := 25) hx hb hE hw (zd_X7_addNumber (25, .getfield 11, 3, 0, []) (List.mem_of_getElem? (i := 12) rfl)) (j := 1) rfl rfl rfl hp e0 ?_
            refine zp_load (pc := 28) hx hb (zd_X7_addNumber (28, .aload_n 0, 1, 0, []) (List.mem_of_getElem? (i := 13) rfl)) rfl (j := 1) rfl ?_
            refine zp_getf (n := (ln : Int)) (pc := 29) hx hb hE hw (zd_X7_addNumber (29, .getfield 15, 3, 0, []) (List.mem_of_getElem? (i := 14) rfl)) (j := 2) rfl rfl rfl hp e1 ?_
            refine zp_load (pc := 32) hx hb (zd_X7_addNumber (32, .iload_n 1, 1, 0, []) (List.mem_of_getElem? (i := 15) rfl)) rfl (j := 2) rfl ?_
            refine zp_load (pc := 33) hx hb (zd_X7_addNumber (33, .iload_n 2, 1, 0, []) (List.mem_of_getElem? (i := 16) rfl)) rfl (j := 0) rfl ?_
            refine zp_bin (o := 8) (la := -2147483648) (ha := 2147483647) (lb := -2147483648) (hb' := 2147483647) (pc := 34) hx hb (zd_X7_addNumber (34, .iushr, 1, 0, []) (List.mem_of_getElem? (i := 17) rfl)) rfl (fun h => absurd h (by decide)) (by omega) (by omega) (by omega) (by omega) (fun x198 r_x198 l_x198 h_x198 => ?_)
            have i_x198 := zp_rg0 r_x198
            refine zp_const (pc := 35) hx hb (zd_X7_addNumber (35, .sipush 255, 3, 0, []) (List.mem_of_getElem? (i := 18) rfl)) rfl rfl ?_
            refine zp_bin (o := 3) (la := -2147483648) (ha := 2147483647) (lb := 255) (hb' := 255) (pc := 38) hx hb (zd_X7_addNumber (38, .iand, 1, 0, []) (List.mem_of_getElem? (i := 19) rfl)) rfl (fun h => absurd h (by decide)) (by omega) (by omega) (by omega) (by omega) (fun x199 r_x199 l_x199 h_x199 => ?_)
            have i_x199 := zp_rg0 r_x199
            have j_x199 : 0 ≤ x199 ∧ x199 ≤ 255 := ⟨l_x199, h_x199⟩
            refine zp_iast (j := ln) (pc := 39) hx hb hw heff (zd_X7_addNumber (39, .iastore, 1, 0, []) (List.mem_of_getElem? (i := 20) rfl)) (show zp_ia 1 29 = some (400, 0, 0, (-2147483648), 2147483647) from rfl) hq0 (by omega) (by omega) (zp_o0 (by omega) (by omega) (by omega) (by omega)) rfl ?_
            refine zp_load (pc := 40) hx hb (zd_X7_addNumber (40, .aload_n 0, 1, 0, []) (List.mem_of_getElem? (i := 21) rfl)) rfl (j := 1) rfl ?_
            refine zp_dup (pc := 41) hx hb (zd_X7_addNumber (41, .dup, 1, 0, []) (List.mem_of_getElem? (i := 22) rfl)) (show (2 : Nat) ≠ 1 by decide) ?_
            refine zp_getf (n := (ln : Int)) (pc := 42) hx hb hE hw (zd_X7_addNumber (42, .getfield 15, 3, 0, []) (List.mem_of_getElem? (i := 23) rfl)) (j := 2) rfl rfl rfl hp ((zp_set_ne (Or.inl (zp_pne hp hq0 (by decide)))).trans (e1)) ?_
            refine zp_const (pc := 45) hx hb (zd_X7_addNumber (45, .iconst 1, 1, 0, []) (List.mem_of_getElem? (i := 24) rfl)) rfl rfl ?_
            refine zp_add (n := ((ln : Int) + 1)) (pc := 46) hx hb (zd_X7_addNumber (46, .iadd, 1, 0, []) (List.mem_of_getElem? (i := 25) rfl)) (by omega) (zp_r0 (by omega) (by omega)) ?_
            refine zp_putf (pc := 47) hx hb hE hw heff (zd_X7_addNumber (47, .putfield 15, 3, 0, []) (List.mem_of_getElem? (i := 26) rfl)) (j := 2) rfl rfl rfl hp (zp_o0 (by omega) (by omega) (by omega) (by omega)) ?_
            refine zp_iinc (L' := [(2, 0, ((-8) * (k : Int) + 16)), (0, 2, (a : Int)), (1, 0, p1)]) (n := ((-8) * (k : Int) + 16)) (pc := 50) hx hb hnL (zd_X7_addNumber (50, .iinc 2 (-8), 3, 0, []) (List.mem_of_getElem? (i := 27) rfl)) (j := 0) rfl (by omega) (zp_r0 (by omega) (by omega)) rfl rfl ?_
            refine zp_goto (tgt := 3) (pc := 53) hx hb (zd_X7_addNumber (53, .goto (-50), 3, 0, []) (List.mem_of_getElem? (i := 28) rfl)) rfl ?_
            refine zp_drop (L' := [(2, 0, (24 - 8 * ((k + 1 : Nat) : Int))), (0, 2, (a : Int)), (1, 0, p1)]) (by simp <;> omega) ?_
            exact ih (k + 1) _ (by omega) (by omega) (((zp_set_ne (Or.inr (by decide))).trans ((zp_set_ne (Or.inl (zp_pne hp hq0 (by decide)))).trans (e0)))) ((zp_set_self).trans (by omega))
  refine zp_const (pc := 0) hx hb (zd_X7_addNumber (0, .bipush 24, 2, 0, []) (List.mem_of_getElem? (i := 0) rfl)) rfl rfl ?_
  refine zp_store (L' := [(2, 0, 24), (0, 2, (a : Int)), (1, 0, p1)]) (pc := 2) hx hb hnL (zd_X7_addNumber (2, .istore_n 2, 1, 0, []) (List.mem_of_getElem? (i := 1) rfl)) rfl rfl rfl ?_
  refine zp_drop (L' := [(2, 0, (24 - 8 * ((0 : Nat) : Int))), (0, 2, (a : Int)), (1, 0, p1)]) (by simp) ?_
  exact loop 5 0 _ (by omega) (by omega) hb0 hl0
def zK_et1 : zk_K := (zt_mn 34, prog_1_method_10_code, 2, (Option.some Jvm.ClassFile.FieldType.int), 1, 11, [(2, 12, 0, 0), (0, 0, (-2147483648), 2147483647)], [(some (0, 0, (-1), 400), [])], [(7, 1, 0)], (0, 0, 0, 0))
def zψ_et1 : (Nat → Option Nat) → (Nat → Nat → Int) → List Int → (Nat → Option Nat) → (Nat → Nat → Int) → Int → Prop := fun P G ps P' G' rn => P' = P ∧ (0 ≤ ps.getD 1 0 ∧ ps.getD 1 0 ≤ G (G (zp_0 ps) 8).toNat 1 → rn = ps.getD 1 0 ∧ G' (G (zp_0 ps) 8).toNat 1 = ps.getD 1 0) ∧ (¬ (0 ≤ ps.getD 1 0 ∧ ps.getD 1 0 ≤ G (G (zp_0 ps) 8).toNat 1) → rn = -1 ∧ G' (G (zp_0 ps) 8).toNat 1 = G (G (zp_0 ps) 8).toNat 1)
theorem zX_et1 {l : Launch} {w : zk_W} (hW : zh_W w) : zk_metX l w zt_dv zt_TB zK_et1 (zp_A zp_tA) (zp_B zψ_et1) ∧ zk_cok w zt_TB zK_et1 := by
  refine zp_methW hW (pl := 684) rfl (by decide +kernel) (fun p e R s m args below meth c Q u hx hb hE hQ hU5 heff hnL hok hφ => ?_)
  have hw := hW.1
  obtain ⟨p0, p1, hps, k0, k1⟩ := zp_ps2 hok
  obtain ⟨a, rfl, hp⟩ := zp_this k0
  have hrm : zk_Kr (zk_ev (zp_EW zK_et1)) = zk_Kr zK_et1 := rfl
  rw [hps] at hφ ⊢
  have hi1 := zp_int k1
  show zp_J p l e R s m args below meth c Q w u [] 0 [(0, 2, (a : Int)), (1, 0, p1)] [] u.1 (zp_n u.2.1)
  refine zp_kn (k := 8) (a := a) hw (show zp_fd 12 8 = some (11, 2, 7, 0, 0) from rfl) rfl hp (fun hk8 => ?_)
  obtain ⟨tp, htp, qtp⟩ := zp_this hk8
  refine zp_kn (k := 1) (a := tp) hw (show zp_fd 7 1 = some (7, 0, 0, 0, 400) from rfl) rfl qtp (fun hk1 => ?_)
  have hx1 := zp_int hk1
  obtain ⟨n0, hn0⟩ : ∃ n0 : Int, zp_n u.2.1 tp 1 = n0 := ⟨_, rfl⟩
  rw [hn0] at hx1
  have htq : (zp_n u.2.1 (zp_0 u.2.2.1) 8).toNat = tp := by rw [hps]; show (zp_n u.2.1 a 8).toNat = tp; rw [htp, Int.toNat_natCast]
  refine zp_load (pc := 0) hx hb (zd_X11_end (0, .iload_n 1, 1, 0, []) (List.mem_of_getElem? (i := 0) rfl)) rfl (j := 1) rfl ?_
  refine zp_if (pc := 1) (tgt := 15) hx hb (zd_X11_end (1, .ifCond .lt 14, 3, 0, []) (List.mem_of_getElem? (i := 1) rfl)) rfl (fun (hc200 : p1 < 0) => ?_) (fun (hc200 : ¬ (p1 < 0)) => ?_)
  · refine zp_const (pc := 15) hx hb (zd_X11_end (15, .iconst (-1), 1, 0, []) (List.mem_of_getElem? (i := 7) rfl)) rfl rfl ?_
    refine zp_iret (pc := 16) (n := (-1)) hx hb hE hQ hU5 rfl (by decide) (zd_X11_end (16, .ireturn, 1, 0, []) (List.mem_of_getElem? (i := 8) rfl)) (j := 0) rfl (zp_o0 (by omega) (by omega) (by omega) (by omega)) ?_
    rw [hps]
    have e1 : (zp_n u.2.1) tp 1 = n0 := hn0
    refine ⟨rfl, ?_⟩
    rw [← hps, htq, hps]
    show (0 ≤ p1 ∧ p1 ≤ zp_n u.2.1 tp 1 → (-1) = p1 ∧ (zp_n u.2.1) tp 1 = p1) ∧ (¬ (0 ≤ p1 ∧ p1 ≤ zp_n u.2.1 tp 1) → (-1) = -1 ∧ (zp_n u.2.1) tp 1 = zp_n u.2.1 tp 1)
    first | rw [e1, hn0] | rw [e1]
    omega
  · refine zp_load (pc := 4) hx hb (zd_X11_end (4, .iload_n 1, 1, 0, []) (List.mem_of_getElem? (i := 2) rfl)) rfl (j := 1) rfl ?_
    refine zp_load (pc := 5) hx hb (zd_X11_end (5, .aload_n 0, 1, 0, []) (List.mem_of_getElem? (i := 3) rfl)) rfl (j := 0) rfl ?_
    refine zp_getf (n := (tp : Int)) (pc := 6) hx hb hE hw (zd_X11_end (6, .getfield 67, 3, 0, []) (List.mem_of_getElem? (i := 4) rfl)) (j := 58) rfl rfl rfl hp htp ?_
    refine zp_getf (n := n0) (pc := 9) hx hb hE hw (zd_X11_end (9, .getfield 193, 3, 0, []) (List.mem_of_getElem? (i := 5) rfl)) (j := 39) rfl rfl rfl qtp hn0 ?_
    refine zp_icmp (pc := 12) (tgt := 17) hx hb (zd_X11_end (12, .if_icmp .le 5, 3, 0, []) (List.mem_of_getElem? (i := 6) rfl)) rfl (fun (hc201 : p1 ≤ n0) => ?_) (fun (hc201 : ¬ (p1 ≤ n0)) => ?_)
    · refine zp_load (pc := 17) hx hb (zd_X11_end (17, .aload_n 0, 1, 0, []) (List.mem_of_getElem? (i := 9) rfl)) rfl (j := 0) rfl ?_
      refine zp_getf (n := (tp : Int)) (pc := 18) hx hb hE hw (zd_X11_end (18, .getfield 67, 3, 0, []) (List.mem_of_getElem? (i := 10) rfl)) (j := 58) rfl rfl rfl hp htp ?_
      refine zp_load (pc := 21) hx hb (zd_X11_end (21, .iload_n 1, 1, 0, []) (List.mem_of_getElem? (i := 11) rfl)) rfl (j := 1) rfl ?_
      refine zp_putf (pc := 22) hx hb hE hw heff (zd_X11_end (22, .putfield 193, 3, 0, []) (List.mem_of_getElem? (i := 12) rfl)) (j := 39) rfl rfl rfl qtp (zp_o0 (by omega) (by omega) (by omega) (by omega)) ?_
      refine zp_load (pc := 25) hx hb (zd_X11_end (25, .iload_n 1, 1, 0, []) (List.mem_of_getElem? (i := 13) rfl)) rfl (j := 1) rfl ?_
      refine zp_iret (pc := 26) (n := p1) hx hb hE hQ hU5 rfl (by decide) (zd_X11_end (26, .ireturn, 1, 0, []) (List.mem_of_getElem? (i := 14) rfl)) (j := 0) rfl (zp_o0 (by omega) (by omega) (by omega) (by omega)) ?_
      rw [hps]
      have e1 : (zp_set (zp_n u.2.1) tp 1 p1) tp 1 = p1 := zp_set_self
      refine ⟨rfl, ?_⟩
      rw [← hps, htq, hps]
      show (0 ≤ p1 ∧ p1 ≤ zp_n u.2.1 tp 1 → p1 = p1 ∧ (zp_set (zp_n u.2.1) tp 1 p1) tp 1 = p1) ∧ (¬ (0 ≤ p1 ∧ p1 ≤ zp_n u.2.1 tp 1) → p1 = -1 ∧ (zp_set (zp_n u.2.1) tp 1 p1) tp 1 = zp_n u.2.1 tp 1)
      first | rw [e1, hn0] | rw [e1]
      omega
    · refine zp_const (pc := 15) hx hb (zd_X11_end (15, .iconst (-1), 1, 0, []) (List.mem_of_getElem? (i := 7) rfl)) rfl rfl ?_
      refine zp_iret (pc := 16) (n := (-1)) hx hb hE hQ hU5 rfl (by decide) (zd_X11_end (16, .ireturn, 1, 0, []) (List.mem_of_getElem? (i := 8) rfl)) (j := 0) rfl (zp_o0 (by omega) (by omega) (by omega) (by omega)) ?_
      rw [hps]
      have e1 : (zp_n u.2.1) tp 1 = n0 := hn0
      refine ⟨rfl, ?_⟩
      rw [← hps, htq, hps]
      show (0 ≤ p1 ∧ p1 ≤ zp_n u.2.1 tp 1 → (-1) = p1 ∧ (zp_n u.2.1) tp 1 = p1) ∧ (¬ (0 ≤ p1 ∧ p1 ≤ zp_n u.2.1 tp 1) → (-1) = -1 ∧ (zp_n u.2.1) tp 1 = zp_n u.2.1 tp 1)
      first | rw [e1, hn0] | rw [e1]
      omega
def zK_fd : zk_K := (zt_mn 31, prog_1_method_9_code, 6, (Option.some Jvm.ClassFile.FieldType.int), 1, 11, [(2, 12, 0, 0), (0, 0, (-2147483648), 2147483647), (0, 0, (-2147483648), 2147483647), (0, 0, (-2147483648), 2147483647), (0, 0, (-2147483648), 2147483647), (0, 0, (-2147483648), 2147483647)], [(some (0, 0, (-1), 400), [])], [(29, 1001, 0), (7, 1, 0)], (1, 40, 0, 0))
def zψ_fd : (Nat → Option Nat) → (Nat → Nat → Int) → List Int → (Nat → Option Nat) → (Nat → Nat → Int) → Int → Prop := fun P G ps P' G' rn => P' = P ∧ (G (G (zp_0 ps) 8).toNat 1 ≤ 380 → rn = G (G (zp_0 ps) 8).toNat 1 + 20 ∧ G' (G (zp_0 ps) 8).toNat 1 = G (G (zp_0 ps) 8).toNat 1 + 20) ∧ (¬ (G (G (zp_0 ps) 8).toNat 1 ≤ 380) → rn = -1 ∧ G' (G (zp_0 ps) 8).toNat 1 = G (G (zp_0 ps) 8).toNat 1)
theorem zX_fd {l : Launch} {w : zk_W} (hW : zh_W w) : zk_metX l w zt_dv zt_TB zK_fd (zp_A zp_tA) (zp_B zψ_fd) ∧ zk_cok w zt_TB zK_fd := by
  refine zp_methW hW (pl := 672) rfl (by decide +kernel) (fun p e R s m args below meth c Q u hx hb hE hQ hU5 heff hnL hok hφ => ?_)
  have hw := hW.1
  obtain ⟨p0, p1, p2, p3, p4, p5, hps, k0, k1, k2, k3, k4, k5⟩ := zp_ps6 hok
  obtain ⟨a, rfl, hp⟩ := zp_this k0
  have hrm : zk_Kr (zk_ev (zp_EW zK_fd)) = zk_Kr zK_fd := rfl
  rw [hps] at hφ ⊢
  show zp_J p l e R s m args below meth c Q w u [] 0 [(0, 2, (a : Int)), (1, 0, p1), (2, 0, p2), (3, 0, p3), (4, 0, p4), (5, 0, p5)] [] u.1 (zp_n u.2.1)
  refine zp_kn (k := 8) (a := a) hw (show zp_fd 12 8 = some (11, 2, 7, 0, 0) from rfl) rfl hp (fun hk8 => ?_)
  obtain ⟨tp, htp, qtp⟩ := zp_this hk8
  refine zp_kn (k := 1) (a := tp) hw (show zp_fd 7 1 = some (7, 0, 0, 0, 400) from rfl) rfl qtp (fun hk1 => ?_)
  have hx1 := zp_int hk1
  obtain ⟨n0, hn0⟩ : ∃ n0 : Int, zp_n u.2.1 tp 1 = n0 := ⟨_, rfl⟩
  rw [hn0] at hx1
  have htq : (zp_n u.2.1 (zp_0 u.2.2.1) 8).toNat = tp := by rw [hps]; show (zp_n u.2.1 a 8).toNat = tp; rw [htp, Int.toNat_natCast]
  refine zp_load (pc := 0) hx hb (zd_X11_feed (0, .aload_n 0, 1, 0, []) (List.mem_of_getElem? (i := 0) rfl)) rfl (j := 0) rfl ?_
  refine zp_getf (n := (tp : Int)) (pc := 1) hx hb hE hw (zd_X11_feed (1, .getfield 67, 3, 0, []) (List.mem_of_getElem? (i := 1) rfl)) (j := 58) rfl rfl rfl hp htp ?_
  refine zp_const (pc := 4) hx hb (zd_X11_feed (4, .bipush 20, 2, 0, []) (List.mem_of_getElem? (i := 2) rfl)) rfl rfl ?_
  refine zp_call (pc := 6) (how := 0) (idx := 186) (mi := 32) (S := []) hx hb hE hw heff hrm (zX_rf hW) rfl (j := 19) rfl rfl (by decide +kernel) (zd_X11_feed (6, .invokevirtual 186, 3, 0, []) (List.mem_of_getElem? (i := 3) rfl)) [(tp : Int), 20] rfl ⟨zp_o2 qtp, zp_o0 (by decide) (by decide) (by decide) (by decide), trivial⟩ (Nat.le_of_ble_eq_true rfl) trivial (fun al hal rnr Pr Gr hextr hfrr hokr hcsr hpsir => ?_)
  obtain rfl := List.mem_singleton.mp hal
  have hrr := zp_int (hokr _ rfl).1
  obtain ⟨hPer, hGer, htr⟩ := hpsir
  rw [hPer, hGer]
  have htr : rnr = 1 ↔ zp_n u.2.1 tp 1 + 20 ≤ 400 := htr
  rw [hn0] at htr
  refine zp_if (pc := 9) (tgt := 14) hx hb (zd_X11_feed (9, .ifCond .ne 5, 3, 0, []) (List.mem_of_getElem? (i := 4) rfl)) rfl (fun (hc202 : ¬ rnr = 0) => ?_) (fun (hc202 : ¬ (¬ rnr = 0)) => ?_)
  · refine zp_load (pc := 14) hx hb (zd_X11_feed (14, .aload_n 0, 1, 0, []) (List.mem_of_getElem? (i := 7) rfl)) rfl (j := 0) rfl ?_
    refine zp_getf (n := (tp : Int)) (pc := 15) hx hb hE hw (zd_X11_feed (15, .getfield 67, 3, 0, []) (List.mem_of_getElem? (i := 8) rfl)) (j := 58) rfl rfl rfl hp htp ?_
    refine zp_load (pc := 18) hx hb (zd_X11_feed (18, .iload_n 1, 1, 0, []) (List.mem_of_getElem? (i := 9) rfl)) rfl (j := 1) rfl ?_
    have qf0 : (zp_n u.2.1) tp 1 = n0 := hn0
    refine zp_call (pc := 19) (how := 0) (idx := 189) (mi := 33) (S := []) hx hb hE hw heff hrm (zX_an hW) rfl (j := 20) rfl rfl (by decide +kernel) (zd_X11_feed (19, .invokevirtual 189, 3, 0, []) (List.mem_of_getElem? (i := 10) rfl)) [(tp : Int), p1] rfl ⟨zp_o2 qtp, k1, trivial⟩ (Nat.le_of_ble_eq_true rfl) (show (zp_n u.2.1) tp 1 ≤ 396 by omega) (fun al hal rnf0 Pf0 Gf0 hextf0 hfrf0 hokf0 hcsf0 hpsif0 => ?_)
    obtain rfl := List.mem_singleton.mp hal
    obtain ⟨rfl, hf0⟩ := hpsif0
    have hf0 : Gf0 tp 1 = (zp_n u.2.1) tp 1 + 4 := hf0
    have ef0 : Gf0 tp 1 = (n0 + 4) := by omega
    have gf0 : Gf0 a 8 = (tp : Int) := (zp_nf hfrf0 hp rfl).trans htp
    refine zp_load (pc := 22) hx hb (zd_X11_feed (22, .aload_n 0, 1, 0, []) (List.mem_of_getElem? (i := 11) rfl)) rfl (j := 0) rfl ?_
    refine zp_getf (n := (tp : Int)) (pc := 23) hx hb hE hw (zd_X11_feed (23, .getfield 67, 3, 0, []) (List.mem_of_getElem? (i := 12) rfl)) (j := 58) rfl rfl rfl hp gf0 ?_
    refine zp_load (pc := 26) hx hb (zd_X11_feed (26, .iload_n 2, 1, 0, []) (List.mem_of_getElem? (i := 13) rfl)) rfl (j := 2) rfl ?_
    have qf1 : Gf0 tp 1 = (n0 + 4) := ef0
    refine zp_call (pc := 27) (how := 0) (idx := 189) (mi := 33) (S := []) hx hb hE hw heff hrm (zX_an hW) rfl (j := 20) rfl rfl (by decide +kernel) (zd_X11_feed (27, .invokevirtual 189, 3, 0, []) (List.mem_of_getElem? (i := 14) rfl)) [(tp : Int), p2] rfl ⟨zp_o2 qtp, k2, trivial⟩ (Nat.le_of_ble_eq_true rfl) (show Gf0 tp 1 ≤ 396 by omega) (fun al hal rnf1 Pf1 Gf1 hextf1 hfrf1 hokf1 hcsf1 hpsif1 => ?_)
    obtain rfl := List.mem_singleton.mp hal
    obtain ⟨rfl, hf1⟩ := hpsif1
    have hf1 : Gf1 tp 1 = Gf0 tp 1 + 4 := hf1
    have ef1 : Gf1 tp 1 = (n0 + 8) := by omega
    have gf1 : Gf1 a 8 = (tp : Int) := (zp_nf hfrf1 hp rfl).trans gf0
    refine zp_load (pc := 30) hx hb (zd_X11_feed (30, .aload_n 0, 1, 0, []) (List.mem_of_getElem? (i := 15) rfl)) rfl (j := 0) rfl ?_
    refine zp_getf (n := (tp : Int)) (pc := 31) hx hb hE hw (zd_X11_feed (31, .getfield 67, 3, 0, []) (List.mem_of_getElem? (i := 16) rfl)) (j := 58) rfl rfl rfl hp gf1 ?_
    refine zp_load (pc := 34) hx hb (zd_X11_feed (34, .iload_n 3, 1, 0, []) (List.mem_of_getElem? (i := 17) rfl)) rfl (j := 3) rfl ?_
    have qf2 : Gf1 tp 1 = (n0 + 8) := ef1
    refine zp_call (pc := 35) (how := 0) (idx := 189) (mi := 33) (S := []) hx hb hE hw heff hrm (zX_an hW) rfl (j := 20) rfl rfl (by decide +kernel) (zd_X11_feed (35, .invokevirtual 189, 3, 0, []) (List.mem_of_getElem? (i := 18) rfl)) [(tp : Int), p3] rfl ⟨zp_o2 qtp, k3, trivial⟩ (Nat.le_of_ble_eq_true rfl) (show Gf1 tp 1 ≤ 396 by omega) (fun al hal rnf2 Pf2 Gf2 hextf2 hfrf2 hokf2 hcsf2 hpsif2 => ?_)
    obtain rfl := List.mem_singleton.mp hal
    obtain ⟨rfl, hf2⟩ := hpsif2
    have hf2 : Gf2 tp 1 = Gf1 tp 1 + 4 := hf2
    have ef2 : Gf2 tp 1 = (n0 + 12) := by omega
    have gf2 : Gf2 a 8 = (tp : Int) := (zp_nf hfrf2 hp rfl).trans gf1
    refine zp_load (pc := 38) hx hb (zd_X11_feed (38, .aload_n 0, 1, 0, []) (List.mem_of_getElem? (i := 19) rfl)) rfl (j := 0) rfl ?_
    refine zp_getf (n := (tp : Int)) (pc := 39) hx hb hE hw (zd_X11_feed (39, .getfield 67, 3, 0, []) (List.mem_of_getElem? (i := 20) rfl)) (j := 58) rfl rfl rfl hp gf2 ?_
    refine zp_load (pc := 42) hx hb (zd_X11_feed (42, .iload 4, 2, 0, []) (List.mem_of_getElem? (i := 21) rfl)) rfl (j := 4) rfl ?_
    have qf3 : Gf2 tp 1 = (n0 + 12) := ef2
    refine zp_call (pc := 44) (how := 0) (idx := 189) (mi := 33) (S := []) hx hb hE hw heff hrm (zX_an hW) rfl (j := 20) rfl rfl (by decide +kernel) (zd_X11_feed (44, .invokevirtual 189, 3, 0, []) (List.mem_of_getElem? (i := 22) rfl)) [(tp : Int), p4] rfl ⟨zp_o2 qtp, k4, trivial⟩ (Nat.le_of_ble_eq_true rfl) (show Gf2 tp 1 ≤ 396 by omega) (fun al hal rnf3 Pf3 Gf3 hextf3 hfrf3 hokf3 hcsf3 hpsif3 => ?_)
    obtain rfl := List.mem_singleton.mp hal
    obtain ⟨rfl, hf3⟩ := hpsif3
    have hf3 : Gf3 tp 1 = Gf2 tp 1 + 4 := hf3
    have ef3 : Gf3 tp 1 = (n0 + 16) := by omega
    have gf3 : Gf3 a 8 = (tp : Int) := (zp_nf hfrf3 hp rfl).trans gf2
    refine zp_load (pc := 47) hx hb (zd_X11_feed (47, .aload_n 0, 1, 0, []) (List.mem_of_getElem? (i := 23) rfl)) rfl (j := 0) rfl ?_
    refine zp_getf (n := (tp : Int)) (pc := 48) hx hb hE hw (zd_X11_feed (48, .getfield 67, 3, 0, []) (List.mem_of_getElem? (i := 24) rfl)) (j := 58) rfl rfl rfl hp gf3 ?_
    refine zp_load (pc := 51) hx hb (zd_X11_feed (51, .iload 5, 2, 0, []) (List.mem_of_getElem? (i := 25) rfl)) rfl (j := 5) rfl ?_
    have qf4 : Gf3 tp 1 = (n0 + 16) := ef3
    refine zp_call (pc := 53) (how := 0) (idx := 189) (mi := 33) (S := []) hx hb hE hw heff hrm (zX_an hW) rfl (j := 20) rfl rfl (by decide +kernel) (zd_X11_feed (53, .invokevirtual 189, 3, 0, []) (List.mem_of_getElem? (i := 26) rfl)) [(tp : Int), p5] rfl ⟨zp_o2 qtp, k5, trivial⟩ (Nat.le_of_ble_eq_true rfl) (show Gf3 tp 1 ≤ 396 by omega) (fun al hal rnf4 Pf4 Gf4 hextf4 hfrf4 hokf4 hcsf4 hpsif4 => ?_)
    obtain rfl := List.mem_singleton.mp hal
    obtain ⟨rfl, hf4⟩ := hpsif4
    have hf4 : Gf4 tp 1 = Gf3 tp 1 + 4 := hf4
    have ef4 : Gf4 tp 1 = (n0 + 20) := by omega
    have gf4 : Gf4 a 8 = (tp : Int) := (zp_nf hfrf4 hp rfl).trans gf3
    refine zp_load (pc := 56) hx hb (zd_X11_feed (56, .aload_n 0, 1, 0, []) (List.mem_of_getElem? (i := 27) rfl)) rfl (j := 0) rfl ?_
    refine zp_getf (n := (tp : Int)) (pc := 57) hx hb hE hw (zd_X11_feed (57, .getfield 67, 3, 0, []) (List.mem_of_getElem? (i := 28) rfl)) (j := 58) rfl rfl rfl hp gf4 ?_
    refine zp_getf (n := (n0 + 20)) (pc := 60) hx hb hE hw (zd_X11_feed (60, .getfield 193, 3, 0, []) (List.mem_of_getElem? (i := 29) rfl)) (j := 39) rfl rfl rfl qtp ef4 ?_
    refine zp_iret (pc := 63) (n := (n0 + 20)) hx hb hE hQ hU5 rfl (by decide) (zd_X11_feed (63, .ireturn, 1, 0, []) (List.mem_of_getElem? (i := 30) rfl)) (j := 0) rfl (zp_o0 (by omega) (by omega) (by omega) (by omega)) ?_
    rw [hps]
    have e1 : Gf4 tp 1 = (n0 + 20) := ef4
    refine ⟨rfl, ?_⟩
    rw [← hps, htq]
    show (zp_n u.2.1 tp 1 ≤ 380 → (n0 + 20) = zp_n u.2.1 tp 1 + 20 ∧ Gf4 tp 1 = zp_n u.2.1 tp 1 + 20) ∧ (¬ (zp_n u.2.1 tp 1 ≤ 380) → (n0 + 20) = -1 ∧ Gf4 tp 1 = zp_n u.2.1 tp 1)
    first | rw [e1, hn0] | rw [e1]
    omega
  · refine zp_const (pc := 12) hx hb (zd_X11_feed (12, .iconst (-1), 1, 0, []) (List.mem_of_getElem? (i := 5) rfl)) rfl rfl ?_
    refine zp_iret (pc := 13) (n := (-1)) hx hb hE hQ hU5 rfl (by decide) (zd_X11_feed (13, .ireturn, 1, 0, []) (List.mem_of_getElem? (i := 6) rfl)) (j := 0) rfl (zp_o0 (by omega) (by omega) (by omega) (by omega)) ?_
    rw [hps]
    have e1 : (zp_n u.2.1) tp 1 = n0 := hn0
    refine ⟨rfl, ?_⟩
    rw [← hps, htq]
    show (zp_n u.2.1 tp 1 ≤ 380 → (-1) = zp_n u.2.1 tp 1 + 20 ∧ (zp_n u.2.1) tp 1 = zp_n u.2.1 tp 1 + 20) ∧ (¬ (zp_n u.2.1 tp 1 ≤ 380) → (-1) = -1 ∧ (zp_n u.2.1) tp 1 = zp_n u.2.1 tp 1)
    first | rw [e1, hn0] | rw [e1]
    omega
