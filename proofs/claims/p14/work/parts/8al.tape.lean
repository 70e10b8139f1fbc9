/-! part 8al: feed, end, exactly -/
noncomputable def zK_en2 : zk_K := (zt_mn 207, prog_14_method_34_code, 2, (Option.some Jvm.ClassFile.FieldType.int), 1, 12, [(2, 13, 0, 0), (0, 0, (-2147483648), 2147483647)], [(some (0, 0, (-1), 400), [])], [(13, 0, 0), (13, 13, 0)], (0, 0, 0, 0))
noncomputable def zψ_en2 : (Nat → Option Nat) → (Nat → Nat → Int) → List Int → (Nat → Option Nat) → (Nat → Nat → Int) → Int → Prop := fun P G ps P' G' rn => P' = P ∧ (0 ≤ ps.getD 1 0 ∧ ps.getD 1 0 ≤ G (zp_0 ps) 13 → rn = ps.getD 1 0 ∧ G' (zp_0 ps) 13 = ps.getD 1 0) ∧ (¬ (0 ≤ ps.getD 1 0 ∧ ps.getD 1 0 ≤ G (zp_0 ps) 13) → rn = -1 ∧ G' (zp_0 ps) 13 = G (zp_0 ps) 13)
theorem zX_en2 {l : Launch} {w : zk_W} (hW : zh_W w) : zk_metX l w zt_dv zt_TB zK_en2 (zp_A zp_tA) (zp_B zψ_en2) ∧ zk_cok w zt_TB zK_en2 := by
  refine zp_meth hW (pl := 1664) rfl (by decide +kernel) (fun p e R s m args below meth c Q u hx hb hE hQ hU5 heff hnL hok hφ => ?_)
  have hw := hW.1
  obtain ⟨p0, p1, hps, k0, k1⟩ := zp_ps2 hok
  obtain ⟨a, rfl, hp⟩ := zp_this k0
  have hrm : zk_Kr (zk_ev (zp_E zK_en2)) = zk_Kr zK_en2 := rfl
  rw [hps] at hφ ⊢
  have hi1 := zp_int k1
  show zp_J p l e R s m args below meth c Q w u [] 0 [(0, 2, (a : Int)), (1, 0, p1)] [] u.1 (zp_n u.2.1)
  refine zp_kn (k := 13) (a := a) hw (show zp_fd 13 13 = some (12, 0, 0, 0, 400) from rfl) rfl hp (fun hk13 => ?_)
  have hx13b := zp_int hk13
  obtain ⟨n0, hn0⟩ : ∃ n0 : Int, zp_n u.2.1 a 13 = n0 := ⟨_, rfl⟩
  rw [hn0] at hx13b
  refine zp_load (pc := 0) hx hb (zd_X12_end (0, .aload_n 0, 1, 0, []) (List.mem_of_getElem? (i := 0) rfl)) rfl (j := 0) rfl ?_
  refine zp_const (pc := 1) hx hb (zd_X12_end (1, .iconst 0, 1, 0, []) (List.mem_of_getElem? (i := 1) rfl)) rfl rfl ?_
  refine zp_putf (pc := 2) hx hb hE hw heff (zd_X12_end (2, .putfield 161, 3, 0, []) (List.mem_of_getElem? (i := 2) rfl)) (j := 18) rfl rfl rfl hp (zp_o0 (by decide) (by decide) (by decide) (by decide)) ?_
  refine zp_load (pc := 5) hx hb (zd_X12_end (5, .iload_n 1, 1, 0, []) (List.mem_of_getElem? (i := 3) rfl)) rfl (j := 1) rfl ?_
  refine zp_if (pc := 6) (tgt := 17) hx hb (zd_X12_end (6, .ifCond .lt 11, 3, 0, []) (List.mem_of_getElem? (i := 4) rfl)) rfl (fun (hc192 : p1 < 0) => ?_) (fun (hc192 : ¬ (p1 < 0)) => ?_)
  · refine zp_const (pc := 17) hx hb (zd_X12_end (17, .iconst (-1), 1, 0, []) (List.mem_of_getElem? (i := 9) rfl)) rfl rfl ?_
    refine zp_iret (pc := 18) (n := (-1)) hx hb hE hQ hU5 rfl (by decide) (zd_X12_end (18, .ireturn, 1, 0, []) (List.mem_of_getElem? (i := 10) rfl)) (j := 0) rfl (zp_o0 (by omega) (by omega) (by omega) (by omega)) ?_
    rw [hps]
    have e13 : (zp_set (zp_n u.2.1) a 0 0) a 13 = n0 := ((zp_set_ne (Or.inr (by decide))).trans (hn0))
    refine ⟨rfl, ?_⟩
    show (0 ≤ p1 ∧ p1 ≤ zp_n u.2.1 a 13 → (-1) = p1 ∧ (zp_set (zp_n u.2.1) a 0 0) a 13 = p1) ∧ (¬ (0 ≤ p1 ∧ p1 ≤ zp_n u.2.1 a 13) → (-1) = -1 ∧ (zp_set (zp_n u.2.1) a 0 0) a 13 = zp_n u.2.1 a 13)
    rw [e13, hn0]
    omega
  · refine zp_load (pc := 9) hx hb (zd_X12_end (9, .iload_n 1, 1, 0, []) (List.mem_of_getElem? (i := 5) rfl)) rfl (j := 1) rfl ?_
    refine zp_load (pc := 10) hx hb (zd_X12_end (10, .aload_n 0, 1, 0, []) (List.mem_of_getElem? (i := 6) rfl)) rfl (j := 0) rfl ?_
    refine zp_getf (n := n0) (pc := 11) hx hb hE hw (zd_X12_end (11, .getfield 228, 3, 0, []) (List.mem_of_getElem? (i := 7) rfl)) (j := 31) rfl rfl rfl hp ((zp_set_ne (Or.inr (by decide))).trans (hn0)) ?_
    refine zp_icmp (pc := 14) (tgt := 19) hx hb (zd_X12_end (14, .if_icmp .le 5, 3, 0, []) (List.mem_of_getElem? (i := 8) rfl)) rfl (fun (hc193 : p1 ≤ n0) => ?_) (fun (hc193 : ¬ (p1 ≤ n0)) => ?_)
    · refine zp_load (pc := 19) hx hb (zd_X12_end (19, .aload_n 0, 1, 0, []) (List.mem_of_getElem? (i := 11) rfl)) rfl (j := 0) rfl ?_
      refine zp_load (pc := 20) hx hb (zd_X12_end (20, .iload_n 1, 1, 0, []) (List.mem_of_getElem? (i := 12) rfl)) rfl (j := 1) rfl ?_
      refine zp_putf (pc := 21) hx hb hE hw heff (zd_X12_end (21, .putfield 228, 3, 0, []) (List.mem_of_getElem? (i := 13) rfl)) (j := 31) rfl rfl rfl hp (zp_o0 (by omega) (by omega) (by omega) (by omega)) ?_
      refine zp_load (pc := 24) hx hb (zd_X12_end (24, .iload_n 1, 1, 0, []) (List.mem_of_getElem? (i := 14) rfl)) rfl (j := 1) rfl ?_
      refine zp_iret (pc := 25) (n := p1) hx hb hE hQ hU5 rfl (by decide) (zd_X12_end (25, .ireturn, 1, 0, []) (List.mem_of_getElem? (i := 15) rfl)) (j := 0) rfl (zp_o0 (by omega) (by omega) (by omega) (by omega)) ?_
      rw [hps]
      have e13 : (zp_set (zp_set (zp_n u.2.1) a 0 0) a 13 p1) a 13 = p1 := zp_set_self
      refine ⟨rfl, ?_⟩
      show (0 ≤ p1 ∧ p1 ≤ zp_n u.2.1 a 13 → p1 = p1 ∧ (zp_set (zp_set (zp_n u.2.1) a 0 0) a 13 p1) a 13 = p1) ∧ (¬ (0 ≤ p1 ∧ p1 ≤ zp_n u.2.1 a 13) → p1 = -1 ∧ (zp_set (zp_set (zp_n u.2.1) a 0 0) a 13 p1) a 13 = zp_n u.2.1 a 13)
      rw [e13, hn0]
      omega
    · refine zp_const (pc := 17) hx hb (zd_X12_end (17, .iconst (-1), 1, 0, []) (List.mem_of_getElem? (i := 9) rfl)) rfl rfl ?_
      refine zp_iret (pc := 18) (n := (-1)) hx hb hE hQ hU5 rfl (by decide) (zd_X12_end (18, .ireturn, 1, 0, []) (List.mem_of_getElem? (i := 10) rfl)) (j := 0) rfl (zp_o0 (by omega) (by omega) (by omega) (by omega)) ?_
      rw [hps]
      have e13 : (zp_set (zp_n u.2.1) a 0 0) a 13 = n0 := ((zp_set_ne (Or.inr (by decide))).trans (hn0))
      refine ⟨rfl, ?_⟩
      show (0 ≤ p1 ∧ p1 ≤ zp_n u.2.1 a 13 → (-1) = p1 ∧ (zp_set (zp_n u.2.1) a 0 0) a 13 = p1) ∧ (¬ (0 ≤ p1 ∧ p1 ≤ zp_n u.2.1 a 13) → (-1) = -1 ∧ (zp_set (zp_n u.2.1) a 0 0) a 13 = zp_n u.2.1 a 13)
      rw [e13, hn0]
      omega
noncomputable def zp_lkT : List zk_L := zt_lk_WoundTown_Tape.map (fun r => r.1)
noncomputable def zp_lcT : List (Nat × Nat × Nat) := zt_lc_WoundTown_Tape.map (fun r => r.1)
noncomputable def zp_ET (K : zk_K) : zk_Ev := (zt_types, zp_lkT, zt_dv, [], [], zp_lcT, K)
theorem zp_lkallT : (zp_lkT.all (zt_lkin "WoundTown$Tape") && zp_lcT.all (zt_lcin "WoundTown$Tape")) = true := by decide +kernel
theorem zp_methT {l : Launch} {w : zk_W} (hW : zh_W w) {K : zk_K} {pl : Nat} {φ : (Nat → Option Nat) → (Nat → Nat → Int) → List Int → Prop} {ψ : (Nat → Option Nat) → (Nat → Nat → Int) → List Int → (Nat → Option Nat) → (Nat → Nat → Int) → Int → Prop} (hcls : K.1.cls = "WoundTown$Tape") (hb0 : (zt_cokb pl K && (zk_e0b (zp_ET K) && (zk_Kk K != 2 && (zk_Kp K).all (fun f => decide (f.1 ≤ 2))))) = true)
    (hJ : ∀ (p : Program) (e : Env) (R : Room) (s : State) (m : MethodId) (args : Array Value) (below : List Frame) (meth : Method) (c : Code) (Q : State → Prop) (u : zk_M), p.tables.exec = Jvm.exec → c.code = K.2.1 → zk_ctx l R s m args meth c w u zt_TB "WoundTown$Tape" zt_TB zt_mn (zp_ET K) → Q = MQ below (fun _ st o t => zk_postX w K (zp_B ψ) u.1 u.2.1 u.2.2.1 st t o) args s (zk_Kr K).2.2.1 (zk_Kr K).2.2.2 (fun q => w.2.2.2.1 ≤ q) → u.2.2.2.2.1 = [] → u.2.2.2.1 = zk_Ke K → u.2.2.2.2.2.1 = K.2.2.1 → zk_all2 (zk_ok u.1) (zk_Kp K) u.2.2.1 → φ u.1 (zp_n u.2.1) u.2.2.1 → zp_J p l e R s m args below meth c Q w u [] 0 (zp_L0 0 (zk_Kp K) u.2.2.1) [] u.1 (zp_n u.2.1)) : zk_metX l w zt_dv zt_TB K (zp_A φ) (zp_B ψ) ∧ zk_cok w zt_TB K := by
  simp only [Bool.and_eq_true] at hb0
  obtain ⟨b1, b2, b3, b4⟩ := hb0
  rw [bne_iff_ne] at b3
  have hall := zp_lkallT
  refine zh_methH hW (lk := zp_lkT) (KS := []) (km := []) (lc := zp_lcT) (K := K) (pl := pl) (A := zp_A φ) (B := zp_B ψ) b3 b2 (by rw [hcls]; simp only [Bool.and_eq_true] at hall ⊢; exact ⟨b1, by decide, hall.1, hall.2⟩) (fun K h => absurd h List.not_mem_nil) (fun p e R s m args below meth c Q P0 G0 ps X hx hb hA hps hE hQ H locs ls hG => ?_)
  have hE1 := hE [] P0 G0 (zk_Ke K) (zk_Ka K) ps (zk_Kp K) (zk_all2_len hps).symm (fun _ _ h => h)
  rw [show (zk_ev (zt_types, zp_lkT, zt_dv, ([] : List zk_K), ([] : List Nat), zp_lcT, K)).1.cls = "WoundTown$Tape" from hcls] at hE1
  have hJ1 := hJ p e R s m args below meth c Q (P0, G0, ps, zk_Ke K, [], K.2.2.1, X) hx hb hE1 hQ rfl rfl rfl hps hA
  obtain ⟨h1, h2, h3, h4, h5, ⟨lv, h6a, h6b⟩, h7, h8, h9, h10, h11, h12, h13⟩ := hG
  have hlv := zp_L0_ok (fs := zk_Kp K) (ps := ps) (i := 0) (j := 3) (zk_all2_len hps) (fun t f h => by
    show (zk_V0 ++ zk_Kp K)[3 + t]? = some f
    rw [List.getElem?_append_right (by show 3 ≤ 3 + t; omega)]
    show (zk_Kp K)[3 + t - 3]? = some f
    rw [show 3 + t - 3 = t by omega]
    exact h) (fun t n h => by
    rw [List.getElem?_append_right (by show 3 ≤ 3 + t; omega)]
    show ps[3 + t - 3]? = some n
    rw [show 3 + t - 3 = t by omega]
    exact h) h6b
  rw [hlv] at h6a
  exact hJ1 G0 H locs ls rfl ⟨zp_wt.of h5, h7, h8, h9, h13⟩ h6a (zp_ks b4 hps) (fun q h => absurd h List.not_mem_nil)
noncomputable def zK_rf : zk_K := (zt_mn 32, prog_9_method_2_code, 2, (Option.some Jvm.ClassFile.FieldType.boolean), 1, 7, [(2, 7, 0, 0), (0, 0, 0, 400)], [(some (0, 0, 0, 1), [])], [], (0, 0, 0, 0))
noncomputable def zψ_rf : (Nat → Option Nat) → (Nat → Nat → Int) → List Int → (Nat → Option Nat) → (Nat → Nat → Int) → Int → Prop := fun P G ps P' G' rn => P' = P ∧ G' = G ∧ (rn = 1 ↔ G (zp_0 ps) 1 + ps.getD 1 0 ≤ 400)
theorem zX_rf {l : Launch} {w : zk_W} (hW : zh_W w) : zk_metX l w zt_dv zt_TB zK_rf (zp_A zp_tA) (zp_B zψ_rf) ∧ zk_cok w zt_TB zK_rf := by
  refine zp_methT hW (pl := 676) rfl (by decide +kernel) (fun p e R s m args below meth c Q u hx hb hE hQ hU5 heff hnL hok hφ => ?_)
  have hw := hW.1
  obtain ⟨p0, p1, hps, k0, k1⟩ := zp_ps2 hok
  obtain ⟨a, rfl, hp⟩ := zp_this k0
  have hrm : zk_Kr (zk_ev (zp_ET zK_rf)) = zk_Kr zK_rf := rfl
  rw [hps] at hφ ⊢
  have hi1 := zp_int k1
  show zp_J p l e R s m args below meth c Q w u [] 0 [(0, 2, (a : Int)), (1, 0, p1)] [] u.1 (zp_n u.2.1)
  refine zp_kn (k := 1) (a := a) hw (show zp_fd 7 1 = some (7, 0, 0, 0, 400) from rfl) rfl hp (fun hk1 => ?_)
  have hx1 := zp_int hk1
  refine zp_load (pc := 0) hx hb (zd_X7_hasRoomFor (0, .aload_n 0, 1, 0, []) (List.mem_of_getElem? (i := 0) rfl)) rfl (j := 0) rfl ?_
  refine zp_getf (n := ((zp_n u.2.1) a 1)) (pc := 1) hx hb hE hw (zd_X7_hasRoomFor (1, .getfield 15, 3, 0, []) (List.mem_of_getElem? (i := 1) rfl)) (j := 2) rfl rfl rfl hp rfl ?_
  refine zp_const (pc := 4) hx hb (zd_X7_hasRoomFor (4, .sipush 400, 3, 0, []) (List.mem_of_getElem? (i := 2) rfl)) rfl rfl ?_
  refine zp_load (pc := 7) hx hb (zd_X7_hasRoomFor (7, .iload_n 1, 1, 0, []) (List.mem_of_getElem? (i := 3) rfl)) rfl (j := 1) rfl ?_
  refine zp_sub (n := (400 - p1)) (pc := 8) hx hb (zd_X7_hasRoomFor (8, .isub, 1, 0, []) (List.mem_of_getElem? (i := 4) rfl)) (by omega) (zp_r0 (by omega) (by omega)) ?_
  refine zp_icmp (pc := 9) (tgt := 16) hx hb (zd_X7_hasRoomFor (9, .if_icmp .gt 7, 3, 0, []) (List.mem_of_getElem? (i := 5) rfl)) rfl (fun (hc194 : (400 - p1) < ((zp_n u.2.1) a 1)) => ?_) (fun (hc194 : ¬ ((400 - p1) < ((zp_n u.2.1) a 1))) => ?_)
  · refine zp_const (pc := 16) hx hb (zd_X7_hasRoomFor (16, .iconst 0, 1, 0, []) (List.mem_of_getElem? (i := 8) rfl)) rfl rfl ?_
    refine zp_zret (pc := 17) (n := 0) hx hb hE hQ hU5 rfl (by decide) (zd_X7_hasRoomFor (17, .ireturn, 1, 0, []) (List.mem_of_getElem? (i := 9) rfl)) (j := 0) rfl (zp_o0 (by omega) (by omega) (by omega) (by omega)) ?_
    rw [hps]
    refine ⟨rfl, rfl, ?_⟩
    show (0 = 1 ↔ zp_n u.2.1 a 1 + p1 ≤ 400)
    omega
  · refine zp_const (pc := 12) hx hb (zd_X7_hasRoomFor (12, .iconst 1, 1, 0, []) (List.mem_of_getElem? (i := 6) rfl)) rfl rfl ?_
    refine zp_goto (tgt := 17) (pc := 13) hx hb (zd_X7_hasRoomFor (13, .goto 4, 3, 0, []) (List.mem_of_getElem? (i := 7) rfl)) rfl ?_
    refine zp_zret (pc := 17) (n := 1) hx hb hE hQ hU5 rfl (by decide) (zd_X7_hasRoomFor (17, .ireturn, 1, 0, []) (List.mem_of_getElem? (i := 9) rfl)) (j := 0) rfl (zp_o0 (by omega) (by omega) (by omega) (by omega)) ?_
    rw [hps]
    refine ⟨rfl, rfl, ?_⟩
    show (1 = 1 ↔ zp_n u.2.1 a 1 + p1 ≤ 400)
    omega
noncomputable def zK_et1 : zk_K := (zt_mn 34, prog_1_method_10_code, 2, (Option.some Jvm.ClassFile.FieldType.int), 1, 11, [(2, 12, 0, 0), (0, 0, (-2147483648), 2147483647)], [(some (0, 0, (-1), 400), [])], [(7, 1, 0)], (0, 0, 0, 0))
noncomputable def zψ_et1 : (Nat → Option Nat) → (Nat → Nat → Int) → List Int → (Nat → Option Nat) → (Nat → Nat → Int) → Int → Prop := fun P G ps P' G' rn => P' = P ∧ (0 ≤ ps.getD 1 0 ∧ ps.getD 1 0 ≤ G (G (zp_0 ps) 8).toNat 1 → rn = ps.getD 1 0 ∧ G' (G (zp_0 ps) 8).toNat 1 = ps.getD 1 0) ∧ (¬ (0 ≤ ps.getD 1 0 ∧ ps.getD 1 0 ≤ G (G (zp_0 ps) 8).toNat 1) → rn = -1 ∧ G' (G (zp_0 ps) 8).toNat 1 = G (G (zp_0 ps) 8).toNat 1)
theorem zX_et1 {l : Launch} {w : zk_W} (hW : zh_W w) : zk_metX l w zt_dv zt_TB zK_et1 (zp_A zp_tA) (zp_B zψ_et1) ∧ zk_cok w zt_TB zK_et1 := by
  refine zp_methW hW (pl := 684) rfl (by decide +kernel) (fun p e R s m args below meth c Q u hx hb hE hQ hU5 heff hnL hok hφ => ?_)
  have hw := hW.1
  obtain ⟨p0, p1, hps, k0, k1⟩ := zp_ps2 hok
  obtain ⟨a, rfl, hp⟩ := zp_this k0
  have hrm : zk_Kr (zk_ev (zp_EW zK_et1)) = zk_Kr zK_et1 := rfl
  rw [hps] at hφ ⊢
  have hi1 := zp_int k1
  show zp_J p l e R s m args below meth c Q w u [] 0 [(0, 2, (a : Int)), (1, 0, p1)] [] u.1 (zp_n u.2.1)
  refine zp_kn (k := 8) (a := a) hw (show zp_fd 12 8 = some (11, 2, 7, 0, 0) from rfl) rfl hp (fun hk8 => ?_)
  obtain ⟨tp, htp, qtp⟩ := zp_this hk8
  refine zp_kn (k := 1) (a := tp) hw (show zp_fd 7 1 = some (7, 0, 0, 0, 400) from rfl) rfl qtp (fun hk1 => ?_)
  have hx1 := zp_int hk1
  obtain ⟨n0, hn0⟩ : ∃ n0 : Int, zp_n u.2.1 tp 1 = n0 := ⟨_, rfl⟩
  rw [hn0] at hx1
  have htq : (zp_n u.2.1 (zp_0 u.2.2.1) 8).toNat = tp := by rw [hps]; show (zp_n u.2.1 a 8).toNat = tp; rw [htp, Int.toNat_natCast]
  refine zp_load (pc := 0) hx hb (zd_X11_end (0, .iload_n 1, 1, 0, []) (List.mem_of_getElem? (i := 0) rfl)) rfl (j := 1) rfl ?_
  refine zp_if (pc := 1) (tgt := 15) hx hb (zd_X11_end (1, .ifCond .lt 14, 3, 0, []) (List.mem_of_getElem? (i := 1) rfl)) rfl (fun (hc200 : p1 < 0) => ?_) (fun (hc200 : ¬ (p1 < 0)) => ?_)
  · refine zp_const (pc := 15) hx hb (zd_X11_end (15, .iconst (-1), 1, 0, []) (List.mem_of_getElem? (i := 7) rfl)) rfl rfl ?_
    refine zp_iret (pc := 16) (n := (-1)) hx hb hE hQ hU5 rfl (by decide) (zd_X11_end (16, .ireturn, 1, 0, []) (List.mem_of_getElem? (i := 8) rfl)) (j := 0) rfl (zp_o0 (by omega) (by omega) (by omega) (by omega)) ?_
    rw [hps]
    have e1 : (zp_n u.2.1) tp 1 = n0 := hn0
    refine ⟨rfl, ?_⟩
    rw [← hps, htq, hps]
    show (0 ≤ p1 ∧ p1 ≤ zp_n u.2.1 tp 1 → (-1) = p1 ∧ (zp_n u.2.1) tp 1 = p1) ∧ (¬ (0 ≤ p1 ∧ p1 ≤ zp_n u.2.1 tp 1) → (-1) = -1 ∧ (zp_n u.2.1) tp 1 = zp_n u.2.1 tp 1)
    first | rw [e1, hn0] | rw [e1]
    omega
  · refine zp_load (pc := 4) hx hb (zd_X11_end (4, .iload_n 1, 1, 0, []) (List.mem_of_getElem? (i := 2) rfl)) rfl (j := 1) rfl ?_
    refine zp_load (pc := 5) hx hb (zd_X11_end (5, .aload_n 0, 1, 0, []) (List.mem_of_getElem? (i := 3) rfl)) rfl (j := 0) rfl ?_
    refine zp_getf (n := (tp : Int)) (pc := 6) hx hb hE hw (zd_X11_end (6, .getfield 67, 3, 0, []) (List.mem_of_getElem? (i := 4) rfl)) (j := 58) rfl rfl rfl hp htp ?_
    refine zp_getf (n := n0) (pc := 9) hx hb hE hw (zd_X11_end (9, .getfield 193, 3, 0, []) (List.mem_of_getElem? (i := 5) rfl)) (j := 39) rfl rfl rfl qtp hn0 ?_
    refine zp_icmp (pc := 12) (tgt := 17) hx hb (zd_X11_end (12, .if_icmp .le 5, 3, 0, []) (List.mem_of_getElem? (i := 6) rfl)) rfl (fun (hc201 : p1 ≤ n0) => ?_) (fun (hc201 : ¬ (p1 ≤ n0)) => ?_)
    · refine zp_load (pc := 17) hx hb (zd_X11_end (17, .aload_n 0, 1, 0, []) (List.mem_of_getElem? (i := 9) rfl)) rfl (j := 0) rfl ?_
      refine zp_getf (n := (tp : Int)) (pc := 18) hx hb hE hw (zd_X11_end (18, .getfield 67, 3, 0, []) (List.mem_of_getElem? (i := 10) rfl)) (j := 58) rfl rfl rfl hp htp ?_
      refine zp_load (pc := 21) hx hb (zd_X11_end (21, .iload_n 1, 1, 0, []) (List.mem_of_getElem? (i := 11) rfl)) rfl (j := 1) rfl ?_
      refine zp_putf (pc := 22) hx hb hE hw heff (zd_X11_end (22, .putfield 193, 3, 0, []) (List.mem_of_getElem? (i := 12) rfl)) (j := 39) rfl rfl rfl qtp (zp_o0 (by omega) (by omega) (by omega) (by omega)) ?_
      refine zp_load (pc := 25) hx hb (zd_X11_end (25, .iload_n 1, 1, 0, []) (List.mem_of_getElem? (i := 13) rfl)) rfl (j := 1) rfl ?_
      refine zp_iret (pc := 26) (n := p1) hx hb hE hQ hU5 rfl (by decide) (zd_X11_end (26, .ireturn, 1, 0, []) (List.mem_of_getElem? (i := 14) rfl)) (j := 0) rfl (zp_o0 (by omega) (by omega) (by omega) (by omega)) ?_
      rw [hps]
      have e1 : (zp_set (zp_n u.2.1) tp 1 p1) tp 1 = p1 := zp_set_self
      refine ⟨rfl, ?_⟩
      rw [← hps, htq, hps]
      show (0 ≤ p1 ∧ p1 ≤ zp_n u.2.1 tp 1 → p1 = p1 ∧ (zp_set (zp_n u.2.1) tp 1 p1) tp 1 = p1) ∧ (¬ (0 ≤ p1 ∧ p1 ≤ zp_n u.2.1 tp 1) → p1 = -1 ∧ (zp_set (zp_n u.2.1) tp 1 p1) tp 1 = zp_n u.2.1 tp 1)
      first | rw [e1, hn0] | rw [e1]
      omega
    · refine zp_const (pc := 15) hx hb (zd_X11_end (15, .iconst (-1), 1, 0, []) (List.mem_of_getElem? (i := 7) rfl)) rfl rfl ?_
      refine zp_iret (pc := 16) (n := (-1)) hx hb hE hQ hU5 rfl (by decide) (zd_X11_end (16, .ireturn, 1, 0, []) (List.mem_of_getElem? (i := 8) rfl)) (j := 0) rfl (zp_o0 (by omega) (by omega) (by omega) (by omega)) ?_
      rw [hps]
      have e1 : (zp_n u.2.1) tp 1 = n0 := hn0
      refine ⟨rfl, ?_⟩
      rw [← hps, htq, hps]
      show (0 ≤ p1 ∧ p1 ≤ zp_n u.2.1 tp 1 → (-1) = p1 ∧ (zp_n u.2.1) tp 1 = p1) ∧ (¬ (0 ≤ p1 ∧ p1 ≤ zp_n u.2.1 tp 1) → (-1) = -1 ∧ (zp_n u.2.1) tp 1 = zp_n u.2.1 tp 1)
      first | rw [e1, hn0] | rw [e1]
      omega