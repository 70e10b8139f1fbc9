/-! part g3: the class: value, exactly -/
/-- what stays while a sum is valued -/
noncomputable def zgV (a xt cd st wd N : Nat) (C Wd : Nat → Int) (G : Nat → Nat → Int) : Prop := G a 1 = (st : Int) ∧ G xt 5 = (cd : Int) ∧ G cd 1000 = (N : Int) ∧ (∀ j, G cd (2000 + j) = C j) ∧ ∀ j, G wd (2000 + j) = Wd j
theorem zgV_s {a xt cd st wd N k : Nat} {C Wd : Nat → Int} {v : Int} {G : Nat → Nat → Int} (h : zgV a xt cd st wd N C Wd G) (h1 : a ≠ st) (h2 : xt ≠ st) (h3 : cd ≠ st) (h4 : wd ≠ st) : zgV a xt cd st wd N C Wd (zp_set G st k v) := by
  obtain ⟨m1, m2, m3, m4, m5⟩ := h
  exact ⟨(zp_set_ne (Or.inl h1)).trans m1, (zp_set_ne (Or.inl h2)).trans m2, (zp_set_ne (Or.inl h3)).trans m3, fun j => (zp_set_ne (Or.inl h3)).trans (m4 j), fun j => (zp_set_ne (Or.inl h4)).trans (m5 j)⟩
theorem zg_bns {o a b v : Int} (h0 : ¬ ((o = 23 ∨ o = 24) ∧ b = 0)) (hv : v = yd_v o a b) (h1 : -1000000000 ≤ v) (h2 : v ≤ 1000000000) : yd_bn o a b = some v := by
  unfold yd_bn
  rw [if_neg h0, ← hv, if_pos ⟨h1, h2⟩]
theorem zg_bnn {o a b v : Int} (h0 : ¬ ((o = 23 ∨ o = 24) ∧ b = 0)) (hv : v = yd_v o a b) (h1 : ¬ (-1000000000 ≤ v ∧ v ≤ 1000000000)) : yd_bn o a b = none := by
  unfold yd_bn
  rw [if_neg h0, ← hv, if_neg h1]
theorem zg_bn0 {o a b : Int} (h0 : (o = 23 ∨ o = 24) ∧ b = 0) : yd_bn o a b = none := by
  unfold yd_bn
  rw [if_pos h0]
noncomputable def zp_lkRu : List zk_L := zt_lk_WoundTown_Rules.map (fun r => r.1)
noncomputable def zp_lcRu : List (Nat × Nat × Nat) := zt_lc_WoundTown_Rules.map (fun r => r.1)
theorem zp_lkallRu : (zp_lkRu.all (zt_lkin "WoundTown$Rules") && zp_lcRu.all (zt_lcin "WoundTown$Rules")) = true := by decide +kernel
noncomputable def zK_val : zk_K := (zt_mn 84, prog_8_method_12_code, 14, (Option.some Jvm.ClassFile.FieldType.long), 1, 6, [(2, 6, 0, 0), (2, 9, 0, 0), (0, 0, (-1), 872), (2, 27, 0, 0)], [(some (1, 0, (-9223372036854775808), 9223372036854775807), [])], [(28, 1001, 0)], (0, 0, 0, 0))
noncomputable def zφ_val (xt cd st wd N f e9 k : Nat) (C Wd : Nat → Int) (en : Int → Int → Int) (x : yD) : (Nat → Option Nat) → (Nat → Nat → Int) → List Int → Prop := fun P G ps => zgV (zp_0 ps) xt cd st wd N C Wd G ∧ (ps.getD 1 0) = (xt : Int) ∧ (ps.getD 3 0) = (wd : Int) ∧ P cd = some 41 ∧ P st = some 28 ∧ 0 ≤ (ps.getD 2 0) ∧ N ≤ 872 ∧ e9 + 1 < N ∧ C e9 = 0 ∧ (∀ j, j < 9 → -2147483648 ≤ Wd j ∧ Wd j ≤ 2147483648) ∧ (∀ s v, yl_ok false s v → en (yl_o false s v) (yl_a false s v) = if s = 1 then v else Wd v.toNat) ∧ yG false C f (ps.getD 2 0).toNat e9 k x ∧ k ≤ 60
noncomputable def zψ_val (xt cd st wd N f e9 k : Nat) (C Wd : Nat → Int) (en : Int → Int → Int) (x : yD) : (Nat → Option Nat) → (Nat → Nat → Int) → List Int → (Nat → Option Nat) → (Nat → Nat → Int) → Int → Prop := fun P G ps P' G' rn => P' = P ∧ (∀ v, x en = some v → (-2147483648 ≤ v ∧ v ≤ 2147483648) ∧ rn = v) ∧ (x en = none → rn = (-9000000000))
set_option maxHeartbeats 4000000 in
theorem zX_val {l : Launch} {w : zk_W} (hW : zh_W w) (xt cd st wd N f e9 k : Nat) (C Wd : Nat → Int) (en : Int → Int → Int) (x : yD) : zk_metX l w zt_dv zt_TB zK_val (zp_A (zφ_val xt cd st wd N f e9 k C Wd en x)) (zp_B (zψ_val xt cd st wd N f e9 k C Wd en x)) ∧ zk_cok w zt_TB zK_val := by
  refine zp_methX (cn := "WoundTown$Rules") zp_lkallRu hW (pl := 910) rfl (by decide +kernel) (fun p e R s m args below meth c Q u hx hb hE hQ hU5 heff hnL hok hφ => ?_)
  have hw := hW.1
  obtain ⟨p0, p1, p2, p3, hps, k0, k1, k2, k3⟩ := zp_ps4 hok
  obtain ⟨a, rfl, hp⟩ := zp_this k0
  have hrm : zk_Kr (zk_ev (zt_types, zp_lkRu, zt_dv, [], [], zp_lcRu, zK_val)) = zk_Kr zK_val := rfl
  rw [hps] at hφ ⊢
  have hi2 := zp_int k2
  have hφ : zgV a xt cd st wd N C Wd (zp_n u.2.1) ∧ p1 = (xt : Int) ∧ p3 = (wd : Int) ∧ u.1 cd = some 41 ∧ u.1 st = some 28 ∧ 0 ≤ p2 ∧ N ≤ 872 ∧ e9 + 1 < N ∧ C e9 = 0 ∧ (∀ j, j < 9 → -2147483648 ≤ Wd j ∧ Wd j ≤ 2147483648) ∧ (∀ s v, yl_ok false s v → en (yl_o false s v) (yl_a false s v) = if s = 1 then v else Wd v.toNat) ∧ yG false C f p2.toNat e9 k x ∧ k ≤ 60 := hφ
  obtain ⟨hm0, e1_, e3_, qcd, qst, s0, hN, he9, hC9, hWd, hen, hE0, hk60⟩ := hφ
  subst e1_ e3_
  obtain ⟨i2, rfl⟩ := zp_nat s0
  rw [Int.toNat_natCast] at hE0
  obtain ⟨xt9, ext, qxt⟩ := zp_this k1
  obtain rfl : xt9 = xt := by omega
  obtain ⟨wd9, ewd, qwd⟩ := zp_this k3
  obtain rfl : wd9 = wd := by omega
  have n1 : a ≠ st := zp_pne hp qst (by decide)
  have n2 : xt9 ≠ st := zp_pne qxt qst (by decide)
  have n3 : cd ≠ st := zp_pne qcd qst (by decide)
  have n4 : wd9 ≠ st := zp_pne qwd qst (by decide)
  have step_l1 : ∀ (b d : Nat) (av : Int) (G : Nat → Nat → Int), b + 1 < e9 + 2 → d < 64 → zgV a xt9 cd st wd9 N C Wd G → C b = 1 → C (b + 1) = av → (∀ G' : Nat → Nat → Int, zgV a xt9 cd st wd9 N C Wd G' → (∀ j, j < d → G' st (2000 + j) = G st (2000 + j)) → G' st (2000 + d) = av → zp_J p l e R s m args below meth c Q w u [] 13 [(4, 0, ((d + 1 : Nat) : Int)), (5, 0, ((b + 2 : Nat) : Int)), (0, 2, (a : Int)), (1, 2, (xt9 : Int)), (2, 0, (i2 : Int)), (3, 2, (wd9 : Int))] [] u.1 G') → zp_J p l e R s m args below meth c Q w u [] 13 [(4, 0, ((d : Nat) : Int)), (5, 0, ((b : Nat) : Int)), (0, 2, (a : Int)), (1, 2, (xt9 : Int)), (2, 0, (i2 : Int)), (3, 2, (wd9 : Int))] [] u.1 G := by
    intro b d av G hb2 hd hm o1 o2 kk
    have ho1 : G cd (2000 + b) = 1 := (hm.2.2.2.1 b).trans o1
    refine zp_drop (L' := [(4, 0, (d : Int)), (5, 0, (b : Int)), (0, 2, (a : Int)), (1, 2, (xt9 : Int)), (2, 0, (i2 : Int)), (3, 2, (wd9 : Int))]) (by simp <;> omega) ?_
    have hl13 := hm.2.2.1
    refine zp_load (pc := 13) hx hb (zd_X6_value (13, .iload 5, 2, 0, []) (List.mem_of_getElem? (i := 9) rfl)) rfl (j := 1) rfl ?_
    refine zp_if (pc := 15) (tgt := 470) hx hb (zd_X6_value (15, .ifCond .lt 455, 3, 0, []) (List.mem_of_getElem? (i := 10) rfl)) rfl (fun (hc21 : (b : Int) < 0) => ?_) (fun (hc21 : ¬ ((b : Int) < 0)) => ?_)
    · exfalso
      omega
    · refine zp_load (pc := 18) hx hb (zd_X6_value (18, .iload 5, 2, 0, []) (List.mem_of_getElem? (i := 11) rfl)) rfl (j := 1) rfl ?_
      refine zp_const (pc := 20) hx hb (zd_X6_value (20, .iconst 1, 1, 0, []) (List.mem_of_getElem? (i := 12) rfl)) rfl rfl ?_
      refine zp_add (n := ((b : Int) + 1)) (pc := 21) hx hb (zd_X6_value (21, .iadd, 1, 0, []) (List.mem_of_getElem? (i := 13) rfl)) (by omega) (zp_r0 (by omega) (by omega)) ?_
      refine zp_load (pc := 22) hx hb (zd_X6_value (22, .aload_n 1, 1, 0, []) (List.mem_of_getElem? (i := 14) rfl)) rfl (j := 3) rfl ?_
      refine zp_getf (n := (cd : Int)) (pc := 23) hx hb hE hw (zd_X6_value (23, .getfield 86, 3, 0, []) (List.mem_of_getElem? (i := 15) rfl)) (j := 10) rfl rfl rfl qxt hm.2.1 ?_
      refine zp_alenN (N := N) (pc := 26) hx hb hw (zd_X6_value (26, .arraylength, 1, 0, []) (List.mem_of_getElem? (i := 16) rfl)) qcd ⟨_, rfl, by decide, by decide⟩ hm.2.2.1 ?_
      refine zp_icmp (pc := 27) (tgt := 470) hx hb (zd_X6_value (27, .if_icmp .ge 443, 3, 0, []) (List.mem_of_getElem? (i := 17) rfl)) rfl (fun (hc22 : (N : Int) ≤ ((b : Int) + 1)) => ?_) (fun (hc22 : ¬ ((N : Int) ≤ ((b : Int) + 1))) => ?_)
      · exfalso
        omega
      · refine zp_load (pc := 30) hx hb (zd_X6_value (30, .iload 4, 2, 0, []) (List.mem_of_getElem? (i := 18) rfl)) rfl (j := 0) rfl ?_
        refine zp_const (pc := 32) hx hb (zd_X6_value (32, .bipush 64, 2, 0, []) (List.mem_of_getElem? (i := 19) rfl)) rfl rfl ?_
        refine zp_icmp (pc := 34) (tgt := 470) hx hb (zd_X6_value (34, .if_icmp .ge 436, 3, 0, []) (List.mem_of_getElem? (i := 20) rfl)) rfl (fun (hc23 : 64 ≤ (d : Int)) => ?_) (fun (hc23 : ¬ (64 ≤ (d : Int))) => ?_)
        · exfalso
          omega
        · refine zp_load (pc := 37) hx hb (zd_X6_value (37, .aload_n 1, 1, 0, []) (List.mem_of_getElem? (i := 21) rfl)) rfl (j := 3) rfl ?_
          refine zp_getf (n := (cd : Int)) (pc := 38) hx hb hE hw (zd_X6_value (38, .getfield 86, 3, 0, []) (List.mem_of_getElem? (i := 22) rfl)) (j := 10) rfl rfl rfl qxt hm.2.1 ?_
          refine zp_load (pc := 41) hx hb (zd_X6_value (41, .iload 5, 2, 0, []) (List.mem_of_getElem? (i := 23) rfl)) rfl (j := 1) rfl ?_
          refine zp_ialdN (j := b) (v := 1) (N := N) (pc := 43) hx hb hw (zd_X6_value (43, .iaload, 1, 0, []) (List.mem_of_getElem? (i := 24) rfl)) (show zp_ia 1 41 = some (0, 0, 0, (-1000000), 1000000) from rfl) ⟨_, rfl, by decide⟩ hm.2.2.1 qcd (by omega) (by omega) ho1 (fun hk24 => ?_)
          have hk24b := zp_int hk24
          refine zp_store (L' := [(6, 0, 1), (4, 0, (d : Int)), (5, 0, (b : Int)), (0, 2, (a : Int)), (1, 2, (xt9 : Int)), (2, 0, (i2 : Int)), (3, 2, (wd9 : Int))]) (pc := 44) hx hb hnL (zd_X6_value (44, .istore 6, 2, 0, []) (List.mem_of_getElem? (i := 25) rfl)) rfl rfl rfl ?_
          refine zp_load (pc := 46) hx hb (zd_X6_value (46, .aload_n 1, 1, 0, []) (List.mem_of_getElem? (i := 26) rfl)) rfl (j := 4) rfl ?_
          refine zp_getf (n := (cd : Int)) (pc := 47) hx hb hE hw (zd_X6_value (47, .getfield 86, 3, 0, []) (List.mem_of_getElem? (i := 27) rfl)) (j := 10) rfl rfl rfl qxt hm.2.1 ?_
          refine zp_load (pc := 50) hx hb (zd_X6_value (50, .iload 5, 2, 0, []) (List.mem_of_getElem? (i := 28) rfl)) rfl (j := 2) rfl ?_
          refine zp_const (pc := 52) hx hb (zd_X6_value (52, .iconst 1, 1, 0, []) (List.mem_of_getElem? (i := 29) rfl)) rfl rfl ?_
          refine zp_add (n := ((b : Int) + 1)) (pc := 53) hx hb (zd_X6_value (53, .iadd, 1, 0, []) (List.mem_of_getElem? (i := 30) rfl)) (by omega) (zp_r0 (by omega) (by omega)) ?_
          refine zp_ialdN (j := (b + 1)) (v := av) (N := N) (pc := 54) hx hb hw (zd_X6_value (54, .iaload, 1, 0, []) (List.mem_of_getElem? (i := 31) rfl)) (show zp_ia 1 41 = some (0, 0, 0, (-1000000), 1000000) from rfl) ⟨_, rfl, by decide⟩ hm.2.2.1 qcd (by omega) (by omega) ((hm.2.2.2.1 (b + 1)).trans o2) (fun hk25 => ?_)
          have hk25b := zp_int hk25
          refine zp_store (L' := [(7, 0, av), (6, 0, 1), (4, 0, (d : Int)), (5, 0, (b : Int)), (0, 2, (a : Int)), (1, 2, (xt9 : Int)), (2, 0, (i2 : Int)), (3, 2, (wd9 : Int))]) (pc := 55) hx hb hnL (zd_X6_value (55, .istore 7, 2, 0, []) (List.mem_of_getElem? (i := 32) rfl)) rfl rfl rfl ?_
          refine zp_load (pc := 57) hx hb (zd_X6_value (57, .iload 6, 2, 0, []) (List.mem_of_getElem? (i := 33) rfl)) rfl (j := 1) rfl ?_
          refine zp_const (pc := 59) hx hb (zd_X6_value (59, .iconst 1, 1, 0, []) (List.mem_of_getElem? (i := 34) rfl)) rfl rfl ?_
          refine zp_icmp (pc := 60) (tgt := 69) hx hb (zd_X6_value (60, .if_icmp .eq 9, 3, 0, []) (List.mem_of_getElem? (i := 35) rfl)) rfl (fun (hc26 : 1 = 1) => ?_) (fun (hc26 : ¬ (1 = 1)) => ?_)
          · refine zp_load (pc := 69) hx hb (zd_X6_value (69, .iload 6, 2, 0, []) (List.mem_of_getElem? (i := 39) rfl)) rfl (j := 1) rfl ?_
            refine zp_const (pc := 71) hx hb (zd_X6_value (71, .iconst 2, 1, 0, []) (List.mem_of_getElem? (i := 40) rfl)) rfl rfl ?_
            refine zp_icmp (pc := 72) (tgt := 91) hx hb (zd_X6_value (72, .if_icmp .ne 19, 3, 0, []) (List.mem_of_getElem? (i := 41) rfl)) rfl (fun (hc27 : ¬ 1 = 2) => ?_) (fun (hc27 : ¬ (¬ 1 = 2)) => ?_)
            · refine zp_const (pc := 91) hx hb (zd_X6_value (91, .iconst 0, 1, 0, []) (List.mem_of_getElem? (i := 50) rfl)) rfl rfl ?_
              refine zp_store (L' := [(8, 0, 0), (7, 0, av), (6, 0, 1), (4, 0, (d : Int)), (5, 0, (b : Int)), (0, 2, (a : Int)), (1, 2, (xt9 : Int)), (2, 0, (i2 : Int)), (3, 2, (wd9 : Int))]) (pc := 92) hx hb hnL (zd_X6_value (92, .istore 8, 2, 0, []) (List.mem_of_getElem? (i := 51) rfl)) rfl rfl rfl ?_
              refine zp_load (pc := 94) hx hb (zd_X6_value (94, .aload_n 0, 1, 0, []) (List.mem_of_getElem? (i := 52) rfl)) rfl (j := 5) rfl ?_
              refine zp_getf (n := (st : Int)) (pc := 95) hx hb hE hw (zd_X6_value (95, .getfield 15, 3, 0, []) (List.mem_of_getElem? (i := 53) rfl)) (j := 5) rfl rfl rfl hp hm.1 ?_
              refine zp_load (pc := 98) hx hb (zd_X6_value (98, .iload 4, 2, 0, []) (List.mem_of_getElem? (i := 54) rfl)) rfl (j := 3) rfl ?_
              refine zp_load (pc := 100) hx hb (zd_X6_value (100, .iload 8, 2, 0, []) (List.mem_of_getElem? (i := 55) rfl)) rfl (j := 0) rfl ?_
              refine zp_if (pc := 102) (tgt := 113) hx hb (zd_X6_value (102, .ifCond .eq 11, 3, 0, []) (List.mem_of_getElem? (i := 56) rfl)) rfl (fun (hc28 : 0 = 0) => ?_) (fun (hc28 : ¬ (0 = 0)) => ?_)
              · refine zp_load (pc := 113) hx hb (zd_X6_value (113, .iload 7, 2, 0, []) (List.mem_of_getElem? (i := 62) rfl)) rfl (j := 1) rfl ?_
                refine zp_i2l (pc := 115) hx hb (zd_X6_value (115, .i2l, 1, 0, []) (List.mem_of_getElem? (i := 63) rfl)) ?_
                refine zp_last (j := d) (pc := 116) hx hb hw heff (zd_X6_value (116, .lastore, 1, 0, []) (List.mem_of_getElem? (i := 64) rfl)) (show zp_ia 2 28 = some (64, 1, 0, (-9223372036854775808), 9223372036854775807) from rfl) qst (by omega) (by omega) rfl ?_
                refine zp_iinc (L' := [(4, 0, ((d : Int) + 1)), (8, 0, 0), (7, 0, av), (6, 0, 1), (5, 0, (b : Int)), (0, 2, (a : Int)), (1, 2, (xt9 : Int)), (2, 0, (i2 : Int)), (3, 2, (wd9 : Int))]) (n := ((d : Int) + 1)) (pc := 117) hx hb hnL (zd_X6_value (117, .iinc 4 1, 3, 0, []) (List.mem_of_getElem? (i := 65) rfl)) (j := 3) rfl (by omega) (zp_r0 (by omega) (by omega)) rfl rfl ?_
                refine zp_goto (tgt := 464) (pc := 120) hx hb (zd_X6_value (120, .goto 344, 3, 0, []) (List.mem_of_getElem? (i := 66) rfl)) rfl ?_
                refine zp_iinc (L' := [(5, 0, ((b : Int) + 2)), (4, 0, ((d : Int) + 1)), (8, 0, 0), (7, 0, av), (6, 0, 1), (0, 2, (a : Int)), (1, 2, (xt9 : Int)), (2, 0, (i2 : Int)), (3, 2, (wd9 : Int))]) (n := ((b : Int) + 2)) (pc := 464) hx hb hnL (zd_X6_value (464, .iinc 5 2, 3, 0, []) (List.mem_of_getElem? (i := 223) rfl)) (j := 4) rfl (by omega) (zp_r0 (by omega) (by omega)) rfl rfl ?_
                refine zp_goto (tgt := 13) (pc := 467) hx hb (zd_X6_value (467, .goto (-454), 3, 0, []) (List.mem_of_getElem? (i := 224) rfl)) rfl ?_
                refine zp_drop (L' := [(4, 0, ((d : Int) + 1)), (5, 0, ((b : Int) + 2)), (0, 2, (a : Int)), (1, 2, (xt9 : Int)), (2, 0, (i2 : Int)), (3, 2, (wd9 : Int))]) (by simp) ?_
                exact kk _ (zgV_s hm n1 n2 n3 n4) (fun j hj => zp_set_ne (Or.inr (by omega))) zp_set_self
              · exfalso
                omega
            · exfalso
              omega
          · exfalso
            omega
  have step_l2 : ∀ (b d vq : Nat) (G : Nat → Nat → Int), b + 1 < e9 + 2 → d < 64 → zgV a xt9 cd st wd9 N C Wd G → C b = 2 → C (b + 1) = (vq : Int) → vq < 9 → (∀ G' : Nat → Nat → Int, zgV a xt9 cd st wd9 N C Wd G' → (∀ j, j < d → G' st (2000 + j) = G st (2000 + j)) → G' st (2000 + d) = Wd vq → zp_J p l e R s m args below meth c Q w u [] 13 [(4, 0, ((d + 1 : Nat) : Int)), (5, 0, ((b + 2 : Nat) : Int)), (0, 2, (a : Int)), (1, 2, (xt9 : Int)), (2, 0, (i2 : Int)), (3, 2, (wd9 : Int))] [] u.1 G') → zp_J p l e R s m args below meth c Q w u [] 13 [(4, 0, ((d : Nat) : Int)), (5, 0, ((b : Nat) : Int)), (0, 2, (a : Int)), (1, 2, (xt9 : Int)), (2, 0, (i2 : Int)), (3, 2, (wd9 : Int))] [] u.1 G := by
    clear step_l1
    intro b d vq G hb2 hd hm o1 o2 o3 kk
    have ho1 : G cd (2000 + b) = 2 := (hm.2.2.2.1 b).trans o1
    refine zp_drop (L' := [(4, 0, (d : Int)), (5, 0, (b : Int)), (0, 2, (a : Int)), (1, 2, (xt9 : Int)), (2, 0, (i2 : Int)), (3, 2, (wd9 : Int))]) (by simp <;> omega) ?_
    have hl13 := hm.2.2.1
    refine zp_load (pc := 13) hx hb (zd_X6_value (13, .iload 5, 2, 0, []) (List.mem_of_getElem? (i := 9) rfl)) rfl (j := 1) rfl ?_
    refine zp_if (pc := 15) (tgt := 470) hx hb (zd_X6_value (15, .ifCond .lt 455, 3, 0, []) (List.mem_of_getElem? (i := 10) rfl)) rfl (fun (hc29 : (b : Int) < 0) => ?_) (fun (hc29 : ¬ ((b : Int) < 0)) => ?_)
    · exfalso
      omega
    · refine zp_load (pc := 18) hx hb (zd_X6_value (18, .iload 5, 2, 0, []) (List.mem_of_getElem? (i := 11) rfl)) rfl (j := 1) rfl ?_
      refine zp_const (pc := 20) hx hb (zd_X6_value (20, .iconst 1, 1, 0, []) (List.mem_of_getElem? (i := 12) rfl)) rfl rfl ?_
      refine zp_add (n := ((b : Int) + 1)) (pc := 21) hx hb (zd_X6_value (21, .iadd, 1, 0, []) (List.mem_of_getElem? (i := 13) rfl)) (by omega) (zp_r0 (by omega) (by omega)) ?_
      refine zp_load (pc := 22) hx hb (zd_X6_value (22, .aload_n 1, 1, 0, []) (List.mem_of_getElem? (i := 14) rfl)) rfl (j := 3) rfl ?_
      refine zp_getf (n := (cd : Int)) (pc := 23) hx hb hE hw (zd_X6_value (23, .getfield 86, 3, 0, []) (List.mem_of_getElem? (i := 15) rfl)) (j := 10) rfl rfl rfl qxt hm.2.1 ?_
      refine zp_alenN (N := N) (pc := 26) hx hb hw (zd_X6_value (26, .arraylength, 1, 0, []) (List.mem_of_getElem? (i := 16) rfl)) qcd ⟨_, rfl, by decide, by decide⟩ hm.2.2.1 ?_
      refine zp_icmp (pc := 27) (tgt := 470) hx hb (zd_X6_value (27, .if_icmp .ge 443, 3, 0, []) (List.mem_of_getElem? (i := 17) rfl)) rfl (fun (hc30 : (N : Int) ≤ ((b : Int) + 1)) => ?_) (fun (hc30 : ¬ ((N : Int) ≤ ((b : Int) + 1))) => ?_)
      · exfalso
        omega
      · refine zp_load (pc := 30) hx hb (zd_X6_value (30, .iload 4, 2, 0, []) (List.mem_of_getElem? (i := 18) rfl)) rfl (j := 0) rfl ?_
        refine zp_const (pc := 32) hx hb (zd_X6_value (32, .bipush 64, 2, 0, []) (List.mem_of_getElem? (i := 19) rfl)) rfl rfl ?_
        refine zp_icmp (pc := 34) (tgt := 470) hx hb (zd_X6_value (34, .if_icmp .ge 436, 3, 0, []) (List.mem_of_getElem? (i := 20) rfl)) rfl (fun (hc31 : 64 ≤ (d : Int)) => ?_) (fun (hc31 : ¬ (64 ≤ (d : Int))) => ?_)
        · exfalso
          omega
        · refine zp_load (pc := 37) hx hb (zd_X6_value (37, .aload_n 1, 1, 0, []) (List.mem_of_getElem? (i := 21) rfl)) rfl (j := 3) rfl ?_
          refine zp_getf (n := (cd : Int)) (pc := 38) hx hb hE hw (zd_X6_value (38, .getfield 86, 3, 0, []) (List.mem_of_getElem? (i := 22) rfl)) (j := 10) rfl rfl rfl qxt hm.2.1 ?_
          refine zp_load (pc := 41) hx hb (zd_X6_value (41, .iload 5, 2, 0, []) (List.mem_of_getElem? (i := 23) rfl)) rfl (j := 1) rfl ?_
          refine zp_ialdN (j := b) (v := 2) (N := N) (pc := 43) hx hb hw (zd_X6_value (43, .iaload, 1, 0, []) (List.mem_of_getElem? (i := 24) rfl)) (show zp_ia 1 41 = some (0, 0, 0, (-1000000), 1000000) from rfl) ⟨_, rfl, by decide⟩ hm.2.2.1 qcd (by omega) (by omega) ho1 (fun hk32 => ?_)
          have hk32b := zp_int hk32
          refine zp_store (L' := [(6, 0, 2), (4, 0, (d : Int)), (5, 0, (b : Int)), (0, 2, (a : Int)), (1, 2, (xt9 : Int)), (2, 0, (i2 : Int)), (3, 2, (wd9 : Int))]) (pc := 44) hx hb hnL (zd_X6_value (44, .istore 6, 2, 0, []) (List.mem_of_getElem? (i := 25) rfl)) rfl rfl rfl ?_
          refine zp_load (pc := 46) hx hb (zd_X6_value (46, .aload_n 1, 1, 0, []) (List.mem_of_getElem? (i := 26) rfl)) rfl (j := 4) rfl ?_
          refine zp_getf (n := (cd : Int)) (pc := 47) hx hb hE hw (zd_X6_value (47, .getfield 86, 3, 0, []) (List.mem_of_getElem? (i := 27) rfl)) (j := 10) rfl rfl rfl qxt hm.2.1 ?_
          refine zp_load (pc := 50) hx hb (zd_X6_value (50, .iload 5, 2, 0, []) (List.mem_of_getElem? (i := 28) rfl)) rfl (j := 2) rfl ?_
          refine zp_const (pc := 52) hx hb (zd_X6_value (52, .iconst 1, 1, 0, []) (List.mem_of_getElem? (i := 29) rfl)) rfl rfl ?_
          refine zp_add (n := ((b : Int) + 1)) (pc := 53) hx hb (zd_X6_value (53, .iadd, 1, 0, []) (List.mem_of_getElem? (i := 30) rfl)) (by omega) (zp_r0 (by omega) (by omega)) ?_
          refine zp_ialdN (j := (b + 1)) (v := (vq : Int)) (N := N) (pc := 54) hx hb hw (zd_X6_value (54, .iaload, 1, 0, []) (List.mem_of_getElem? (i := 31) rfl)) (show zp_ia 1 41 = some (0, 0, 0, (-1000000), 1000000) from rfl) ⟨_, rfl, by decide⟩ hm.2.2.1 qcd (by omega) (by omega) ((hm.2.2.2.1 (b + 1)).trans o2) (fun hk33 => ?_)
          have hk33b := zp_int hk33
          refine zp_store (L' := [(7, 0, (vq : Int)), (6, 0, 2), (4, 0, (d : Int)), (5, 0, (b : Int)), (0, 2, (a : Int)), (1, 2, (xt9 : Int)), (2, 0, (i2 : Int)), (3, 2, (wd9 : Int))]) (pc := 55) hx hb hnL (zd_X6_value (55, .istore 7, 2, 0, []) (List.mem_of_getElem? (i := 32) rfl)) rfl rfl rfl ?_
          refine zp_load (pc := 57) hx hb (zd_X6_value (57, .iload 6, 2, 0, []) (List.mem_of_getElem? (i := 33) rfl)) rfl (j := 1) rfl ?_
          refine zp_const (pc := 59) hx hb (zd_X6_value (59, .iconst 1, 1, 0, []) (List.mem_of_getElem? (i := 34) rfl)) rfl rfl ?_
          refine zp_icmp (pc := 60) (tgt := 69) hx hb (zd_X6_value (60, .if_icmp .eq 9, 3, 0, []) (List.mem_of_getElem? (i := 35) rfl)) rfl (fun (hc34 : 2 = 1) => ?_) (fun (hc34 : ¬ (2 = 1)) => ?_)
          · exfalso
            omega
          · refine zp_load (pc := 63) hx hb (zd_X6_value (63, .iload 6, 2, 0, []) (List.mem_of_getElem? (i := 36) rfl)) rfl (j := 1) rfl ?_
            refine zp_const (pc := 65) hx hb (zd_X6_value (65, .iconst 2, 1, 0, []) (List.mem_of_getElem? (i := 37) rfl)) rfl rfl ?_
            refine zp_icmp (pc := 66) (tgt := 123) hx hb (zd_X6_value (66, .if_icmp .ne 57, 3, 0, []) (List.mem_of_getElem? (i := 38) rfl)) rfl (fun (hc35 : ¬ 2 = 2) => ?_) (fun (hc35 : ¬ (¬ 2 = 2)) => ?_)
            · exfalso
              omega
            · refine zp_load (pc := 69) hx hb (zd_X6_value (69, .iload 6, 2, 0, []) (List.mem_of_getElem? (i := 39) rfl)) rfl (j := 1) rfl ?_
              refine zp_const (pc := 71) hx hb (zd_X6_value (71, .iconst 2, 1, 0, []) (List.mem_of_getElem? (i := 40) rfl)) rfl rfl ?_
              refine zp_icmp (pc := 72) (tgt := 91) hx hb (zd_X6_value (72, .if_icmp .ne 19, 3, 0, []) (List.mem_of_getElem? (i := 41) rfl)) rfl (fun (hc36 : ¬ 2 = 2) => ?_) (fun (hc36 : ¬ (¬ 2 = 2)) => ?_)
              · exfalso
                omega
              · refine zp_load (pc := 75) hx hb (zd_X6_value (75, .iload 7, 2, 0, []) (List.mem_of_getElem? (i := 42) rfl)) rfl (j := 0) rfl ?_
                refine zp_if (pc := 77) (tgt := 91) hx hb (zd_X6_value (77, .ifCond .lt 14, 3, 0, []) (List.mem_of_getElem? (i := 43) rfl)) rfl (fun (hc37 : (vq : Int) < 0) => ?_) (fun (hc37 : ¬ ((vq : Int) < 0)) => ?_)
                · exfalso
                  omega
                · refine zp_load (pc := 80) hx hb (zd_X6_value (80, .iload 7, 2, 0, []) (List.mem_of_getElem? (i := 44) rfl)) rfl (j := 0) rfl ?_
                  refine zp_load (pc := 82) hx hb (zd_X6_value (82, .aload_n 3, 1, 0, []) (List.mem_of_getElem? (i := 45) rfl)) rfl (j := 7) rfl ?_
                  refine zu_alen (len := 9) (pc := 83) hx hb hw (zd_X6_value (83, .arraylength, 1, 0, []) (List.mem_of_getElem? (i := 46) rfl)) qwd ⟨_, rfl, by decide, rfl, rfl⟩ (by decide) ?_
                  refine zp_icmp (pc := 84) (tgt := 91) hx hb (zd_X6_value (84, .if_icmp .ge 7, 3, 0, []) (List.mem_of_getElem? (i := 47) rfl)) rfl (fun (hc38 : 9 ≤ (vq : Int)) => ?_) (fun (hc38 : ¬ (9 ≤ (vq : Int))) => ?_)
                  · exfalso
                    omega
                  · refine zp_const (pc := 87) hx hb (zd_X6_value (87, .iconst 1, 1, 0, []) (List.mem_of_getElem? (i := 48) rfl)) rfl rfl ?_
                    refine zp_goto (tgt := 92) (pc := 88) hx hb (zd_X6_value (88, .goto 4, 3, 0, []) (List.mem_of_getElem? (i := 49) rfl)) rfl ?_
                    refine zp_store (L' := [(8, 0, 1), (7, 0, (vq : Int)), (6, 0, 2), (4, 0, (d : Int)), (5, 0, (b : Int)), (0, 2, (a : Int)), (1, 2, (xt9 : Int)), (2, 0, (i2 : Int)), (3, 2, (wd9 : Int))]) (pc := 92) hx hb hnL (zd_X6_value (92, .istore 8, 2, 0, []) (List.mem_of_getElem? (i := 51) rfl)) rfl rfl rfl ?_
                    refine zp_load (pc := 94) hx hb (zd_X6_value (94, .aload_n 0, 1, 0, []) (List.mem_of_getElem? (i := 52) rfl)) rfl (j := 5) rfl ?_
                    refine zp_getf (n := (st : Int)) (pc := 95) hx hb hE hw (zd_X6_value (95, .getfield 15, 3, 0, []) (List.mem_of_getElem? (i := 53) rfl)) (j := 5) rfl rfl rfl hp hm.1 ?_
                    refine zp_load (pc := 98) hx hb (zd_X6_value (98, .iload 4, 2, 0, []) (List.mem_of_getElem? (i := 54) rfl)) rfl (j := 3) rfl ?_
                    refine zp_load (pc := 100) hx hb (zd_X6_value (100, .iload 8, 2, 0, []) (List.mem_of_getElem? (i := 55) rfl)) rfl (j := 0) rfl ?_
                    refine zp_if (pc := 102) (tgt := 113) hx hb (zd_X6_value (102, .ifCond .eq 11, 3, 0, []) (List.mem_of_getElem? (i := 56) rfl)) rfl (fun (hc39 : 1 = 0) => ?_) (fun (hc39 : ¬ (1 = 0)) => ?_)
                    · exfalso
                      omega
                    · refine zp_load (pc := 105) hx hb (zd_X6_value (105, .aload_n 3, 1, 0, []) (List.mem_of_getElem? (i := 57) rfl)) rfl (j := 8) rfl ?_
                      refine zp_load (pc := 106) hx hb (zd_X6_value (106, .iload 7, 2, 0, []) (List.mem_of_getElem? (i := 58) rfl)) rfl (j := 1) rfl ?_
                      refine zp_iald (j := vq) (v := (Wd vq)) (pc := 108) hx hb hw (zd_X6_value (108, .iaload, 1, 0, []) (List.mem_of_getElem? (i := 59) rfl)) (show zp_ia 1 27 = some (9, 0, 0, (-2147483648), 2147483647) from rfl) qwd (by omega) (by omega) (hm.2.2.2.2 vq) (fun hk40 => ?_)
                      have hk40b := zp_int hk40
                      refine zp_i2l (pc := 109) hx hb (zd_X6_value (109, .i2l, 1, 0, []) (List.mem_of_getElem? (i := 60) rfl)) ?_
                      refine zp_goto (tgt := 116) (pc := 110) hx hb (zd_X6_value (110, .goto 6, 3, 0, []) (List.mem_of_getElem? (i := 61) rfl)) rfl ?_
                      refine zp_last (j := d) (pc := 116) hx hb hw heff (zd_X6_value (116, .lastore, 1, 0, []) (List.mem_of_getElem? (i := 64) rfl)) (show zp_ia 2 28 = some (64, 1, 0, (-9223372036854775808), 9223372036854775807) from rfl) qst (by omega) (by omega) rfl ?_
                      refine zp_iinc (L' := [(4, 0, ((d : Int) + 1)), (8, 0, 1), (7, 0, (vq : Int)), (6, 0, 2), (5, 0, (b : Int)), (0, 2, (a : Int)), (1, 2, (xt9 : Int)), (2, 0, (i2 : Int)), (3, 2, (wd9 : Int))]) (n := ((d : Int) + 1)) (pc := 117) hx hb hnL (zd_X6_value (117, .iinc 4 1, 3, 0, []) (List.mem_of_getElem? (i := 65) rfl)) (j := 3) rfl (by omega) (zp_r0 (by omega) (by omega)) rfl rfl ?_
                      refine zp_goto (tgt := 464) (pc := 120) hx hb (zd_X6_value (120, .goto 344, 3, 0, []) (List.mem_of_getElem? (i := 66) rfl)) rfl ?_
                      refine zp_iinc (L' := [(5, 0, ((b : Int) + 2)), (4, 0, ((d : Int) + 1)), (8, 0, 1), (7, 0, (vq : Int)), (6, 0, 2), (0, 2, (a : Int)), (1, 2, (xt9 : Int)), (2, 0, (i2 : Int)), (3, 2, (wd9 : Int))]) (n := ((b : Int) + 2)) (pc := 464) hx hb hnL (zd_X6_value (464, .iinc 5 2, 3, 0, []) (List.mem_of_getElem? (i := 223) rfl)) (j := 4) rfl (by omega) (zp_r0 (by omega) (by omega)) rfl rfl ?_
                      refine zp_goto (tgt := 13) (pc := 467) hx hb (zd_X6_value (467, .goto (-454), 3, 0, []) (List.mem_of_getElem? (i := 224) rfl)) rfl ?_
                      refine zp_drop (L' := [(4, 0, ((d : Int) + 1)), (5, 0, ((b : Int) + 2)), (0, 2, (a : Int)), (1, 2, (xt9 : Int)), (2, 0, (i2 : Int)), (3, 2, (wd9 : Int))]) (by simp) ?_
                      exact kk _ (zgV_s hm n1 n2 n3 n4) (fun j hj => zp_set_ne (Or.inr (by omega))) zp_set_self
  have exitv : ∀ (v1 : Int) (G : Nat → Nat → Int), zgV a xt9 cd st wd9 N C Wd G → G st (2000 + 0) = v1 → -2147483648 ≤ v1 ∧ v1 ≤ 2147483648 → x en = some v1 → zp_J p l e R s m args below meth c Q w u [] 13 [(4, 0, ((1 : Nat) : Int)), (5, 0, ((e9 : Nat) : Int)), (0, 2, (a : Int)), (1, 2, (xt9 : Int)), (2, 0, (i2 : Int)), (3, 2, (wd9 : Int))] [] u.1 G := by
    clear step_l1 step_l2
    intro v1 G hm e1 bd1 hxv
    have ho1 : G cd (2000 + e9) = 0 := (hm.2.2.2.1 e9).trans hC9
    refine zp_drop (L' := [(4, 0, 1), (5, 0, (e9 : Int)), (0, 2, (a : Int)), (1, 2, (xt9 : Int)), (2, 0, (i2 : Int)), (3, 2, (wd9 : Int))]) (by simp <;> omega) ?_
    have hl13 := hm.2.2.1
    refine zp_load (pc := 13) hx hb (zd_X6_value (13, .iload 5, 2, 0, []) (List.mem_of_getElem? (i := 9) rfl)) rfl (j := 1) rfl ?_
    refine zp_if (pc := 15) (tgt := 470) hx hb (zd_X6_value (15, .ifCond .lt 455, 3, 0, []) (List.mem_of_getElem? (i := 10) rfl)) rfl (fun (hc41 : (e9 : Int) < 0) => ?_) (fun (hc41 : ¬ ((e9 : Int) < 0)) => ?_)
    · exfalso
      omega
    · refine zp_load (pc := 18) hx hb (zd_X6_value (18, .iload 5, 2, 0, []) (List.mem_of_getElem? (i := 11) rfl)) rfl (j := 1) rfl ?_
      refine zp_const (pc := 20) hx hb (zd_X6_value (20, .iconst 1, 1, 0, []) (List.mem_of_getElem? (i := 12) rfl)) rfl rfl ?_
      refine zp_add (n := ((e9 : Int) + 1)) (pc := 21) hx hb (zd_X6_value (21, .iadd, 1, 0, []) (List.mem_of_getElem? (i := 13) rfl)) (by omega) (zp_r0 (by omega) (by omega)) ?_
      refine zp_load (pc := 22) hx hb (zd_X6_value (22, .aload_n 1, 1, 0, []) (List.mem_of_getElem? (i := 14) rfl)) rfl (j := 3) rfl ?_
      refine zp_getf (n := (cd : Int)) (pc := 23) hx hb hE hw (zd_X6_value (23, .getfield 86, 3, 0, []) (List.mem_of_getElem? (i := 15) rfl)) (j := 10) rfl rfl rfl qxt hm.2.1 ?_
      refine zp_alenN (N := N) (pc := 26) hx hb hw (zd_X6_value (26, .arraylength, 1, 0, []) (List.mem_of_getElem? (i := 16) rfl)) qcd ⟨_, rfl, by decide, by decide⟩ hm.2.2.1 ?_
      refine zp_icmp (pc := 27) (tgt := 470) hx hb (zd_X6_value (27, .if_icmp .ge 443, 3, 0, []) (List.mem_of_getElem? (i := 17) rfl)) rfl (fun (hc42 : (N : Int) ≤ ((e9 : Int) + 1)) => ?_) (fun (hc42 : ¬ ((N : Int) ≤ ((e9 : Int) + 1))) => ?_)
      · exfalso
        omega
      · refine zp_load (pc := 30) hx hb (zd_X6_value (30, .iload 4, 2, 0, []) (List.mem_of_getElem? (i := 18) rfl)) rfl (j := 0) rfl ?_
        refine zp_const (pc := 32) hx hb (zd_X6_value (32, .bipush 64, 2, 0, []) (List.mem_of_getElem? (i := 19) rfl)) rfl rfl ?_
        refine zp_icmp (pc := 34) (tgt := 470) hx hb (zd_X6_value (34, .if_icmp .ge 436, 3, 0, []) (List.mem_of_getElem? (i := 20) rfl)) rfl (fun (hc43 : 64 ≤ 1) => ?_) (fun (hc43 : ¬ (64 ≤ 1)) => ?_)
        · exfalso
          omega
        · refine zp_load (pc := 37) hx hb (zd_X6_value (37, .aload_n 1, 1, 0, []) (List.mem_of_getElem? (i := 21) rfl)) rfl (j := 3) rfl ?_
          refine zp_getf (n := (cd : Int)) (pc := 38) hx hb hE hw (zd_X6_value (38, .getfield 86, 3, 0, []) (List.mem_of_getElem? (i := 22) rfl)) (j := 10) rfl rfl rfl qxt hm.2.1 ?_
          refine zp_load (pc := 41) hx hb (zd_X6_value (41, .iload 5, 2, 0, []) (List.mem_of_getElem? (i := 23) rfl)) rfl (j := 1) rfl ?_
          refine zp_ialdN (j := e9) (v := 0) (N := N) (pc := 43) hx hb hw (zd_X6_value (43, .iaload, 1, 0, []) (List.mem_of_getElem? (i := 24) rfl)) (show zp_ia 1 41 = some (0, 0, 0, (-1000000), 1000000) from rfl) ⟨_, rfl, by decide⟩ hm.2.2.1 qcd (by omega) (by omega) ho1 (fun hk44 => ?_)
          have hk44b := zp_int hk44
          refine zp_store (L' := [(6, 0, 0), (4, 0, 1), (5, 0, (e9 : Int)), (0, 2, (a : Int)), (1, 2, (xt9 : Int)), (2, 0, (i2 : Int)), (3, 2, (wd9 : Int))]) (pc := 44) hx hb hnL (zd_X6_value (44, .istore 6, 2, 0, []) (List.mem_of_getElem? (i := 25) rfl)) rfl rfl rfl ?_
          refine zp_load (pc := 46) hx hb (zd_X6_value (46, .aload_n 1, 1, 0, []) (List.mem_of_getElem? (i := 26) rfl)) rfl (j := 4) rfl ?_
          refine zp_getf (n := (cd : Int)) (pc := 47) hx hb hE hw (zd_X6_value (47, .getfield 86, 3, 0, []) (List.mem_of_getElem? (i := 27) rfl)) (j := 10) rfl rfl rfl qxt hm.2.1 ?_
          refine zp_load (pc := 50) hx hb (zd_X6_value (50, .iload 5, 2, 0, []) (List.mem_of_getElem? (i := 28) rfl)) rfl (j := 2) rfl ?_
          refine zp_const (pc := 52) hx hb (zd_X6_value (52, .iconst 1, 1, 0, []) (List.mem_of_getElem? (i := 29) rfl)) rfl rfl ?_
          refine zp_add (n := ((e9 : Int) + 1)) (pc := 53) hx hb (zd_X6_value (53, .iadd, 1, 0, []) (List.mem_of_getElem? (i := 30) rfl)) (by omega) (zp_r0 (by omega) (by omega)) ?_
          refine zp_ialdN (j := (e9 + 1)) (v := (C (e9 + 1))) (N := N) (pc := 54) hx hb hw (zd_X6_value (54, .iaload, 1, 0, []) (List.mem_of_getElem? (i := 31) rfl)) (show zp_ia 1 41 = some (0, 0, 0, (-1000000), 1000000) from rfl) ⟨_, rfl, by decide⟩ hm.2.2.1 qcd (by omega) (by omega) (hm.2.2.2.1 (e9 + 1)) (fun hk45 => ?_)
          have hk45b := zp_int hk45
          refine zp_store (L' := [(7, 0, (C (e9 + 1))), (6, 0, 0), (4, 0, 1), (5, 0, (e9 : Int)), (0, 2, (a : Int)), (1, 2, (xt9 : Int)), (2, 0, (i2 : Int)), (3, 2, (wd9 : Int))]) (pc := 55) hx hb hnL (zd_X6_value (55, .istore 7, 2, 0, []) (List.mem_of_getElem? (i := 32) rfl)) rfl rfl rfl ?_
          refine zp_load (pc := 57) hx hb (zd_X6_value (57, .iload 6, 2, 0, []) (List.mem_of_getElem? (i := 33) rfl)) rfl (j := 1) rfl ?_
          refine zp_const (pc := 59) hx hb (zd_X6_value (59, .iconst 1, 1, 0, []) (List.mem_of_getElem? (i := 34) rfl)) rfl rfl ?_
          refine zp_icmp (pc := 60) (tgt := 69) hx hb (zd_X6_value (60, .if_icmp .eq 9, 3, 0, []) (List.mem_of_getElem? (i := 35) rfl)) rfl (fun (hc46 : 0 = 1) => ?_) (fun (hc46 : ¬ (0 = 1)) => ?_)
          · exfalso
            omega
          · refine zp_load (pc := 63) hx hb (zd_X6_value (63, .iload 6, 2, 0, []) (List.mem_of_getElem? (i := 36) rfl)) rfl (j := 1) rfl ?_
            refine zp_const (pc := 65) hx hb (zd_X6_value (65, .iconst 2, 1, 0, []) (List.mem_of_getElem? (i := 37) rfl)) rfl rfl ?_
            refine zp_icmp (pc := 66) (tgt := 123) hx hb (zd_X6_value (66, .if_icmp .ne 57, 3, 0, []) (List.mem_of_getElem? (i := 38) rfl)) rfl (fun (hc47 : ¬ 0 = 2) => ?_) (fun (hc47 : ¬ (¬ 0 = 2)) => ?_)
            · refine zp_load (pc := 123) hx hb (zd_X6_value (123, .iload 4, 2, 0, []) (List.mem_of_getElem? (i := 67) rfl)) rfl (j := 2) rfl ?_
              refine zp_const (pc := 125) hx hb (zd_X6_value (125, .iconst 1, 1, 0, []) (List.mem_of_getElem? (i := 68) rfl)) rfl rfl ?_
              refine zp_icmp (pc := 126) (tgt := 133) hx hb (zd_X6_value (126, .if_icmp .ge 7, 3, 0, []) (List.mem_of_getElem? (i := 69) rfl)) rfl (fun (hc48 : 1 ≤ 1) => ?_) (fun (hc48 : ¬ (1 ≤ 1)) => ?_)
              · refine zp_load (pc := 133) hx hb (zd_X6_value (133, .aload_n 0, 1, 0, []) (List.mem_of_getElem? (i := 72) rfl)) rfl (j := 4) rfl ?_
                refine zp_getf (n := (st : Int)) (pc := 134) hx hb hE hw (zd_X6_value (134, .getfield 15, 3, 0, []) (List.mem_of_getElem? (i := 73) rfl)) (j := 5) rfl rfl rfl hp hm.1 ?_
                refine zp_load (pc := 137) hx hb (zd_X6_value (137, .iload 4, 2, 0, []) (List.mem_of_getElem? (i := 74) rfl)) rfl (j := 2) rfl ?_
                refine zp_const (pc := 139) hx hb (zd_X6_value (139, .iconst 1, 1, 0, []) (List.mem_of_getElem? (i := 75) rfl)) rfl rfl ?_
                refine zp_sub (n := 0) (pc := 140) hx hb (zd_X6_value (140, .isub, 1, 0, []) (List.mem_of_getElem? (i := 76) rfl)) (by omega) (zp_r0 (by omega) (by omega)) ?_
                refine zp_lald (j := 0) (v := v1) (pc := 141) hx hb hw (zd_X6_value (141, .laload, 1, 0, []) (List.mem_of_getElem? (i := 77) rfl)) (show zp_ia 2 28 = some (64, 1, 0, (-9223372036854775808), 9223372036854775807) from rfl) qst (by omega) (by omega) e1 ?_
                refine zp_store (L' := [(8, 1, v1), (7, 0, (C (e9 + 1))), (6, 0, 0), (4, 0, 1), (5, 0, (e9 : Int)), (0, 2, (a : Int)), (1, 2, (xt9 : Int)), (2, 0, (i2 : Int)), (3, 2, (wd9 : Int))]) (pc := 142) hx hb hnL (zd_X6_value (142, .lstore 8, 2, 0, []) (List.mem_of_getElem? (i := 78) rfl)) rfl rfl rfl ?_
                refine zp_load (pc := 144) hx hb (zd_X6_value (144, .iload 6, 2, 0, []) (List.mem_of_getElem? (i := 79) rfl)) rfl (j := 2) rfl ?_
                refine zp_if (pc := 146) (tgt := 152) hx hb (zd_X6_value (146, .ifCond .ne 6, 3, 0, []) (List.mem_of_getElem? (i := 80) rfl)) rfl (fun (hc50 : ¬ 0 = 0) => ?_) (fun (hc50 : ¬ (¬ 0 = 0)) => ?_)
                · exfalso
                  omega
                · refine zp_load (pc := 149) hx hb (zd_X6_value (149, .lload 8, 2, 0, []) (List.mem_of_getElem? (i := 81) rfl)) rfl (j := 0) rfl ?_
                  refine zp_lret (pc := 151) (n := v1) hx hb hE hQ hU5 rfl (by decide) (zd_X6_value (151, .lreturn, 1, 0, []) (List.mem_of_getElem? (i := 82) rfl)) (j := 0) rfl (zp_o1 (by first | assumption | exact zp_r1 (by omega) (by omega))) ?_
                  rw [hps]
                  exact ⟨rfl, fun v hv => by
                    rw [hxv] at hv
                    obtain rfl := Option.some.inj hv
                    exact ⟨bd1, rfl⟩, fun hv => by
                    rw [hxv] at hv
                    cases hv⟩
              · exfalso
                omega
            · exfalso
              omega
  have step_nt : ∀ (b d : Nat) (v1 : Int) (G : Nat → Nat → Int), b < e9 → d < 63 → zgV a xt9 cd st wd9 N C Wd G → C b = 3 → G st (2000 + d) = v1 → -2147483648 ≤ v1 ∧ v1 ≤ 2147483648 → (∀ G' : Nat → Nat → Int, zgV a xt9 cd st wd9 N C Wd G' → (∀ j, j < d → G' st (2000 + j) = G st (2000 + j)) → G' st (2000 + d) = 1 - v1 → zp_J p l e R s m args below meth c Q w u [] 13 [(4, 0, ((d + 1 : Nat) : Int)), (5, 0, ((b + 2 : Nat) : Int)), (0, 2, (a : Int)), (1, 2, (xt9 : Int)), (2, 0, (i2 : Int)), (3, 2, (wd9 : Int))] [] u.1 G') → zp_J p l e R s m args below meth c Q w u [] 13 [(4, 0, ((d + 1 : Nat) : Int)), (5, 0, ((b : Nat) : Int)), (0, 2, (a : Int)), (1, 2, (xt9 : Int)), (2, 0, (i2 : Int)), (3, 2, (wd9 : Int))] [] u.1 G := by
    clear step_l1 step_l2 exitv
    intro b d v1 G hb2 hd hm o1 e1 bd1 kk
    have ho1 : G cd (2000 + b) = 3 := (hm.2.2.2.1 b).trans o1
    refine zp_drop (L' := [(4, 0, ((d : Int) + 1)), (5, 0, (b : Int)), (0, 2, (a : Int)), (1, 2, (xt9 : Int)), (2, 0, (i2 : Int)), (3, 2, (wd9 : Int))]) (by simp <;> omega) ?_
    have hl13 := hm.2.2.1
    refine zp_load (pc := 13) hx hb (zd_X6_value (13, .iload 5, 2, 0, []) (List.mem_of_getElem? (i := 9) rfl)) rfl (j := 1) rfl ?_
    refine zp_if (pc := 15) (tgt := 470) hx hb (zd_X6_value (15, .ifCond .lt 455, 3, 0, []) (List.mem_of_getElem? (i := 10) rfl)) rfl (fun (hc51 : (b : Int) < 0) => ?_) (fun (hc51 : ¬ ((b : Int) < 0)) => ?_)
    · exfalso
      omega
    · refine zp_load (pc := 18) hx hb (zd_X6_value (18, .iload 5, 2, 0, []) (List.mem_of_getElem? (i := 11) rfl)) rfl (j := 1) rfl ?_
      refine zp_const (pc := 20) hx hb (zd_X6_value (20, .iconst 1, 1, 0, []) (List.mem_of_getElem? (i := 12) rfl)) rfl rfl ?_
      refine zp_add (n := ((b : Int) + 1)) (pc := 21) hx hb (zd_X6_value (21, .iadd, 1, 0, []) (List.mem_of_getElem? (i := 13) rfl)) (by omega) (zp_r0 (by omega) (by omega)) ?_
      refine zp_load (pc := 22) hx hb (zd_X6_value (22, .aload_n 1, 1, 0, []) (List.mem_of_getElem? (i := 14) rfl)) rfl (j := 3) rfl ?_
      refine zp_getf (n := (cd : Int)) (pc := 23) hx hb hE hw (zd_X6_value (23, .getfield 86, 3, 0, []) (List.mem_of_getElem? (i := 15) rfl)) (j := 10) rfl rfl rfl qxt hm.2.1 ?_
      refine zp_alenN (N := N) (pc := 26) hx hb hw (zd_X6_value (26, .arraylength, 1, 0, []) (List.mem_of_getElem? (i := 16) rfl)) qcd ⟨_, rfl, by decide, by decide⟩ hm.2.2.1 ?_
      refine zp_icmp (pc := 27) (tgt := 470) hx hb (zd_X6_value (27, .if_icmp .ge 443, 3, 0, []) (List.mem_of_getElem? (i := 17) rfl)) rfl (fun (hc52 : (N : Int) ≤ ((b : Int) + 1)) => ?_) (fun (hc52 : ¬ ((N : Int) ≤ ((b : Int) + 1))) => ?_)
      · exfalso
        omega
      · refine zp_load (pc := 30) hx hb (zd_X6_value (30, .iload 4, 2, 0, []) (List.mem_of_getElem? (i := 18) rfl)) rfl (j := 0) rfl ?_
        refine zp_const (pc := 32) hx hb (zd_X6_value (32, .bipush 64, 2, 0, []) (List.mem_of_getElem? (i := 19) rfl)) rfl rfl ?_
        refine zp_icmp (pc := 34) (tgt := 470) hx hb (zd_X6_value (34, .if_icmp .ge 436, 3, 0, []) (List.mem_of_getElem? (i := 20) rfl)) rfl (fun (hc53 : 64 ≤ ((d : Int) + 1)) => ?_) (fun (hc53 : ¬ (64 ≤ ((d : Int) + 1))) => ?_)
        · exfalso
          omega
        · refine zp_load (pc := 37) hx hb (zd_X6_value (37, .aload_n 1, 1, 0, []) (List.mem_of_getElem? (i := 21) rfl)) rfl (j := 3) rfl ?_
          refine zp_getf (n := (cd : Int)) (pc := 38) hx hb hE hw (zd_X6_value (38, .getfield 86, 3, 0, []) (List.mem_of_getElem? (i := 22) rfl)) (j := 10) rfl rfl rfl qxt hm.2.1 ?_
          refine zp_load (pc := 41) hx hb (zd_X6_value (41, .iload 5, 2, 0, []) (List.mem_of_getElem? (i := 23) rfl)) rfl (j := 1) rfl ?_
          refine zp_ialdN (j := b) (v := 3) (N := N) (pc := 43) hx hb hw (zd_X6_value (43, .iaload, 1, 0, []) (List.mem_of_getElem? (i := 24) rfl)) (show zp_ia 1 41 = some (0, 0, 0, (-1000000), 1000000) from rfl) ⟨_, rfl, by decide⟩ hm.2.2.1 qcd (by omega) (by omega) ho1 (fun hk54 => ?_)
          have hk54b := zp_int hk54
          refine zp_store (L' := [(6, 0, 3), (4, 0, ((d : Int) + 1)), (5, 0, (b : Int)), (0, 2, (a : Int)), (1, 2, (xt9 : Int)), (2, 0, (i2 : Int)), (3, 2, (wd9 : Int))]) (pc := 44) hx hb hnL (zd_X6_value (44, .istore 6, 2, 0, []) (List.mem_of_getElem? (i := 25) rfl)) rfl rfl rfl ?_
          refine zp_load (pc := 46) hx hb (zd_X6_value (46, .aload_n 1, 1, 0, []) (List.mem_of_getElem? (i := 26) rfl)) rfl (j := 4) rfl ?_
          refine zp_getf (n := (cd : Int)) (pc := 47) hx hb hE hw (zd_X6_value (47, .getfield 86, 3, 0, []) (List.mem_of_getElem? (i := 27) rfl)) (j := 10) rfl rfl rfl qxt hm.2.1 ?_
          refine zp_load (pc := 50) hx hb (zd_X6_value (50, .iload 5, 2, 0, []) (List.mem_of_getElem? (i := 28) rfl)) rfl (j := 2) rfl ?_
          refine zp_const (pc := 52) hx hb (zd_X6_value (52, .iconst 1, 1, 0, []) (List.mem_of_getElem? (i := 29) rfl)) rfl rfl ?_
          refine zp_add (n := ((b : Int) + 1)) (pc := 53) hx hb (zd_X6_value (53, .iadd, 1, 0, []) (List.mem_of_getElem? (i := 30) rfl)) (by omega) (zp_r0 (by omega) (by omega)) ?_
          refine zp_ialdN (j := (b + 1)) (v := (C (b + 1))) (N := N) (pc := 54) hx hb hw (zd_X6_value (54, .iaload, 1, 0, []) (List.mem_of_getElem? (i := 31) rfl)) (show zp_ia 1 41 = some (0, 0, 0, (-1000000), 1000000) from rfl) ⟨_, rfl, by decide⟩ hm.2.2.1 qcd (by omega) (by omega) (hm.2.2.2.1 (b + 1)) (fun hk55 => ?_)
          have hk55b := zp_int hk55
          refine zp_store (L' := [(7, 0, (C (b + 1))), (6, 0, 3), (4, 0, ((d : Int) + 1)), (5, 0, (b : Int)), (0, 2, (a : Int)), (1, 2, (xt9 : Int)), (2, 0, (i2 : Int)), (3, 2, (wd9 : Int))]) (pc := 55) hx hb hnL (zd_X6_value (55, .istore 7, 2, 0, []) (List.mem_of_getElem? (i := 32) rfl)) rfl rfl rfl ?_
          refine zp_load (pc := 57) hx hb (zd_X6_value (57, .iload 6, 2, 0, []) (List.mem_of_getElem? (i := 33) rfl)) rfl (j := 1) rfl ?_
          refine zp_const (pc := 59) hx hb (zd_X6_value (59, .iconst 1, 1, 0, []) (List.mem_of_getElem? (i := 34) rfl)) rfl rfl ?_
          refine zp_icmp (pc := 60) (tgt := 69) hx hb (zd_X6_value (60, .if_icmp .eq 9, 3, 0, []) (List.mem_of_getElem? (i := 35) rfl)) rfl (fun (hc56 : 3 = 1) => ?_) (fun (hc56 : ¬ (3 = 1)) => ?_)
          · exfalso
            omega
          · refine zp_load (pc := 63) hx hb (zd_X6_value (63, .iload 6, 2, 0, []) (List.mem_of_getElem? (i := 36) rfl)) rfl (j := 1) rfl ?_
            refine zp_const (pc := 65) hx hb (zd_X6_value (65, .iconst 2, 1, 0, []) (List.mem_of_getElem? (i := 37) rfl)) rfl rfl ?_
            refine zp_icmp (pc := 66) (tgt := 123) hx hb (zd_X6_value (66, .if_icmp .ne 57, 3, 0, []) (List.mem_of_getElem? (i := 38) rfl)) rfl (fun (hc57 : ¬ 3 = 2) => ?_) (fun (hc57 : ¬ (¬ 3 = 2)) => ?_)
            · refine zp_load (pc := 123) hx hb (zd_X6_value (123, .iload 4, 2, 0, []) (List.mem_of_getElem? (i := 67) rfl)) rfl (j := 2) rfl ?_
              refine zp_const (pc := 125) hx hb (zd_X6_value (125, .iconst 1, 1, 0, []) (List.mem_of_getElem? (i := 68) rfl)) rfl rfl ?_
              refine zp_icmp (pc := 126) (tgt := 133) hx hb (zd_X6_value (126, .if_icmp .ge 7, 3, 0, []) (List.mem_of_getElem? (i := 69) rfl)) rfl (fun (hc58 : 1 ≤ ((d : Int) + 1)) => ?_) (fun (hc58 : ¬ (1 ≤ ((d : Int) + 1))) => ?_)
              · refine zp_load (pc := 133) hx hb (zd_X6_value (133, .aload_n 0, 1, 0, []) (List.mem_of_getElem? (i := 72) rfl)) rfl (j := 4) rfl ?_
                refine zp_getf (n := (st : Int)) (pc := 134) hx hb hE hw (zd_X6_value (134, .getfield 15, 3, 0, []) (List.mem_of_getElem? (i := 73) rfl)) (j := 5) rfl rfl rfl hp hm.1 ?_
                refine zp_load (pc := 137) hx hb (zd_X6_value (137, .iload 4, 2, 0, []) (List.mem_of_getElem? (i := 74) rfl)) rfl (j := 2) rfl ?_
                refine zp_const (pc := 139) hx hb (zd_X6_value (139, .iconst 1, 1, 0, []) (List.mem_of_getElem? (i := 75) rfl)) rfl rfl ?_
                refine zp_sub (n := (d : Int)) (pc := 140) hx hb (zd_X6_value (140, .isub, 1, 0, []) (List.mem_of_getElem? (i := 76) rfl)) (by omega) (zp_r0 (by omega) (by omega)) ?_
                refine zp_lald (j := d) (v := v1) (pc := 141) hx hb hw (zd_X6_value (141, .laload, 1, 0, []) (List.mem_of_getElem? (i := 77) rfl)) (show zp_ia 2 28 = some (64, 1, 0, (-9223372036854775808), 9223372036854775807) from rfl) qst (by omega) (by omega) e1 ?_
                refine zp_store (L' := [(8, 1, v1), (7, 0, (C (b + 1))), (6, 0, 3), (4, 0, ((d : Int) + 1)), (5, 0, (b : Int)), (0, 2, (a : Int)), (1, 2, (xt9 : Int)), (2, 0, (i2 : Int)), (3, 2, (wd9 : Int))]) (pc := 142) hx hb hnL (zd_X6_value (142, .lstore 8, 2, 0, []) (List.mem_of_getElem? (i := 78) rfl)) rfl rfl rfl ?_
                refine zp_load (pc := 144) hx hb (zd_X6_value (144, .iload 6, 2, 0, []) (List.mem_of_getElem? (i := 79) rfl)) rfl (j := 2) rfl ?_
                refine zp_if (pc := 146) (tgt := 152) hx hb (zd_X6_value (146, .ifCond .ne 6, 3, 0, []) (List.mem_of_getElem? (i := 80) rfl)) rfl (fun (hc60 : ¬ 3 = 0) => ?_) (fun (hc60 : ¬ (¬ 3 = 0)) => ?_)
                · refine zp_load (pc := 152) hx hb (zd_X6_value (152, .iload 6, 2, 0, []) (List.mem_of_getElem? (i := 83) rfl)) rfl (j := 2) rfl ?_
                  refine zp_const (pc := 154) hx hb (zd_X6_value (154, .iconst 3, 1, 0, []) (List.mem_of_getElem? (i := 84) rfl)) rfl rfl ?_
                  refine zp_icmp (pc := 155) (tgt := 174) hx hb (zd_X6_value (155, .if_icmp .ne 19, 3, 0, []) (List.mem_of_getElem? (i := 85) rfl)) rfl (fun (hc61 : ¬ 3 = 3) => ?_) (fun (hc61 : ¬ (¬ 3 = 3)) => ?_)
                  · exfalso
                    omega
                  · refine zp_load (pc := 158) hx hb (zd_X6_value (158, .aload_n 0, 1, 0, []) (List.mem_of_getElem? (i := 86) rfl)) rfl (j := 5) rfl ?_
                    refine zp_getf (n := (st : Int)) (pc := 159) hx hb hE hw (zd_X6_value (159, .getfield 15, 3, 0, []) (List.mem_of_getElem? (i := 87) rfl)) (j := 5) rfl rfl rfl hp hm.1 ?_
                    refine zp_load (pc := 162) hx hb (zd_X6_value (162, .iload 4, 2, 0, []) (List.mem_of_getElem? (i := 88) rfl)) rfl (j := 3) rfl ?_
                    refine zp_const (pc := 164) hx hb (zd_X6_value (164, .iconst 1, 1, 0, []) (List.mem_of_getElem? (i := 89) rfl)) rfl rfl ?_
                    refine zp_sub (n := (d : Int)) (pc := 165) hx hb (zd_X6_value (165, .isub, 1, 0, []) (List.mem_of_getElem? (i := 90) rfl)) (by omega) (zp_r0 (by omega) (by omega)) ?_
                    refine zp_const (pc := 166) hx hb (zd_X6_value (166, .lconst 1, 1, 0, []) (List.mem_of_getElem? (i := 91) rfl)) rfl rfl ?_
                    refine zp_load (pc := 167) hx hb (zd_X6_value (167, .lload 8, 2, 0, []) (List.mem_of_getElem? (i := 92) rfl)) rfl (j := 0) rfl ?_
                    refine zp_lsubx (n := (1 - v1)) (pc := 169) hx hb (zd_X6_value (169, .lsub, 1, 0, []) (List.mem_of_getElem? (i := 93) rfl)) rfl (zp_r1 (by omega) (by omega)) ?_
                    refine zp_last (j := d) (pc := 170) hx hb hw heff (zd_X6_value (170, .lastore, 1, 0, []) (List.mem_of_getElem? (i := 94) rfl)) (show zp_ia 2 28 = some (64, 1, 0, (-9223372036854775808), 9223372036854775807) from rfl) qst (by omega) (by omega) rfl ?_
                    refine zp_goto (tgt := 464) (pc := 171) hx hb (zd_X6_value (171, .goto 293, 3, 0, []) (List.mem_of_getElem? (i := 95) rfl)) rfl ?_
                    refine zp_iinc (L' := [(5, 0, ((b : Int) + 2)), (8, 1, v1), (7, 0, (C (b + 1))), (6, 0, 3), (4, 0, ((d : Int) + 1)), (0, 2, (a : Int)), (1, 2, (xt9 : Int)), (2, 0, (i2 : Int)), (3, 2, (wd9 : Int))]) (n := ((b : Int) + 2)) (pc := 464) hx hb hnL (zd_X6_value (464, .iinc 5 2, 3, 0, []) (List.mem_of_getElem? (i := 223) rfl)) (j := 4) rfl (by omega) (zp_r0 (by omega) (by omega)) rfl rfl ?_
                    refine zp_goto (tgt := 13) (pc := 467) hx hb (zd_X6_value (467, .goto (-454), 3, 0, []) (List.mem_of_getElem? (i := 224) rfl)) rfl ?_
                    refine zp_drop (L' := [(4, 0, ((d : Int) + 1)), (5, 0, ((b : Int) + 2)), (0, 2, (a : Int)), (1, 2, (xt9 : Int)), (2, 0, (i2 : Int)), (3, 2, (wd9 : Int))]) (by simp) ?_
                    exact kk _ (zgV_s hm n1 n2 n3 n4) (fun j hj => zp_set_ne (Or.inr (by omega))) zp_set_self
                · exfalso
                  omega
              · exfalso
                omega
            · exfalso
              omega
  have step_b4 : ∀ (b d j9 : Nat) (v1 : Int) (G : Nat → Nat → Int), b < e9 → d < 63 → b + 2 ≤ j9 → j9 ≤ e9 → zgV a xt9 cd st wd9 N C Wd G → C b = 4 → C (b + 1) = (j9 : Int) → G st (2000 + d) = v1 → (v1 = 0 ∨ v1 = 1) → (v1 = 0 → zp_J p l e R s m args below meth c Q w u [] 13 [(4, 0, ((d + 1 : Nat) : Int)), (5, 0, ((j9 : Nat) : Int)), (0, 2, (a : Int)), (1, 2, (xt9 : Int)), (2, 0, (i2 : Int)), (3, 2, (wd9 : Int))] [] u.1 G) → (¬ v1 = 0 → zp_J p l e R s m args below meth c Q w u [] 13 [(4, 0, ((d : Nat) : Int)), (5, 0, ((b + 2 : Nat) : Int)), (0, 2, (a : Int)), (1, 2, (xt9 : Int)), (2, 0, (i2 : Int)), (3, 2, (wd9 : Int))] [] u.1 G) → zp_J p l e R s m args below meth c Q w u [] 13 [(4, 0, ((d + 1 : Nat) : Int)), (5, 0, ((b : Nat) : Int)), (0, 2, (a : Int)), (1, 2, (xt9 : Int)), (2, 0, (i2 : Int)), (3, 2, (wd9 : Int))] [] u.1 G := by
    clear step_l1 step_l2 exitv step_nt
    intro b d j9 v1 G hb2 hd hj1 hj2 hm o1 o2 e1 ht kj kn
    have ho1 : G cd (2000 + b) = 4 := (hm.2.2.2.1 b).trans o1
    refine zp_drop (L' := [(4, 0, ((d : Int) + 1)), (5, 0, (b : Int)), (0, 2, (a : Int)), (1, 2, (xt9 : Int)), (2, 0, (i2 : Int)), (3, 2, (wd9 : Int))]) (by simp <;> omega) ?_
    have hl13 := hm.2.2.1
    refine zp_load (pc := 13) hx hb (zd_X6_value (13, .iload 5, 2, 0, []) (List.mem_of_getElem? (i := 9) rfl)) rfl (j := 1) rfl ?_
    refine zp_if (pc := 15) (tgt := 470) hx hb (zd_X6_value (15, .ifCond .lt 455, 3, 0, []) (List.mem_of_getElem? (i := 10) rfl)) rfl (fun (hc62 : (b : Int) < 0) => ?_) (fun (hc62 : ¬ ((b : Int) < 0)) => ?_)
    · exfalso
      omega
    · refine zp_load (pc := 18) hx hb (zd_X6_value (18, .iload 5, 2, 0, []) (List.mem_of_getElem? (i := 11) rfl)) rfl (j := 1) rfl ?_
      refine zp_const (pc := 20) hx hb (zd_X6_value (20, .iconst 1, 1, 0, []) (List.mem_of_getElem? (i := 12) rfl)) rfl rfl ?_
      refine zp_add (n := ((b : Int) + 1)) (pc := 21) hx hb (zd_X6_value (21, .iadd, 1, 0, []) (List.mem_of_getElem? (i := 13) rfl)) (by omega) (zp_r0 (by omega) (by omega)) ?_
      refine zp_load (pc := 22) hx hb (zd_X6_value (22, .aload_n 1, 1, 0, []) (List.mem_of_getElem? (i := 14) rfl)) rfl (j := 3) rfl ?_
      refine zp_getf (n := (cd : Int)) (pc := 23) hx hb hE hw (zd_X6_value (23, .getfield 86, 3, 0, []) (List.mem_of_getElem? (i := 15) rfl)) (j := 10) rfl rfl rfl qxt hm.2.1 ?_
      refine zp_alenN (N := N) (pc := 26) hx hb hw (zd_X6_value (26, .arraylength, 1, 0, []) (List.mem_of_getElem? (i := 16) rfl)) qcd ⟨_, rfl, by decide, by decide⟩ hm.2.2.1 ?_
      refine zp_icmp (pc := 27) (tgt := 470) hx hb (zd_X6_value (27, .if_icmp .ge 443, 3, 0, []) (List.mem_of_getElem? (i := 17) rfl)) rfl (fun (hc63 : (N : Int) ≤ ((b : Int) + 1)) => ?_) (fun (hc63 : ¬ ((N : Int) ≤ ((b : Int) + 1))) => ?_)
      · exfalso
        omega
      · refine zp_load (pc := 30) hx hb (zd_X6_value (30, .iload 4, 2, 0, []) (List.mem_of_getElem? (i := 18) rfl)) rfl (j := 0) rfl ?_
        refine zp_const (pc := 32) hx hb (zd_X6_value (32, .bipush 64, 2, 0, []) (List.mem_of_getElem? (i := 19) rfl)) rfl rfl ?_
        refine zp_icmp (pc := 34) (tgt := 470) hx hb (zd_X6_value (34, .if_icmp .ge 436, 3, 0, []) (List.mem_of_getElem? (i := 20) rfl)) rfl (fun (hc64 : 64 ≤ ((d : Int) + 1)) => ?_) (fun (hc64 : ¬ (64 ≤ ((d : Int) + 1))) => ?_)
        · exfalso
          omega
        · refine zp_load (pc := 37) hx hb (zd_X6_value (37, .aload_n 1, 1, 0, []) (List.mem_of_getElem? (i := 21) rfl)) rfl (j := 3) rfl ?_
          refine zp_getf (n := (cd : Int)) (pc := 38) hx hb hE hw (zd_X6_value (38, .getfield 86, 3, 0, []) (List.mem_of_getElem? (i := 22) rfl)) (j := 10) rfl rfl rfl qxt hm.2.1 ?_
          refine zp_load (pc := 41) hx hb (zd_X6_value (41, .iload 5, 2, 0, []) (List.mem_of_getElem? (i := 23) rfl)) rfl (j := 1) rfl ?_
          refine zp_ialdN (j := b) (v := 4) (N := N) (pc := 43) hx hb hw (zd_X6_value (43, .iaload, 1, 0, []) (List.mem_of_getElem? (i := 24) rfl)) (show zp_ia 1 41 = some (0, 0, 0, (-1000000), 1000000) from rfl) ⟨_, rfl, by decide⟩ hm.2.2.1 qcd (by omega) (by omega) ho1 (fun hk65 => ?_)
          have hk65b := zp_int hk65
          refine zp_store (L' := [(6, 0, 4), (4, 0, ((d : Int) + 1)), (5, 0, (b : Int)), (0, 2, (a : Int)), (1, 2, (xt9 : Int)), (2, 0, (i2 : Int)), (3, 2, (wd9 : Int))]) (pc := 44) hx hb hnL (zd_X6_value (44, .istore 6, 2, 0, []) (List.mem_of_getElem? (i := 25) rfl)) rfl rfl rfl ?_
          refine zp_load (pc := 46) hx hb (zd_X6_value (46, .aload_n 1, 1, 0, []) (List.mem_of_getElem? (i := 26) rfl)) rfl (j := 4) rfl ?_
          refine zp_getf (n := (cd : Int)) (pc := 47) hx hb hE hw (zd_X6_value (47, .getfield 86, 3, 0, []) (List.mem_of_getElem? (i := 27) rfl)) (j := 10) rfl rfl rfl qxt hm.2.1 ?_
          refine zp_load (pc := 50) hx hb (zd_X6_value (50, .iload 5, 2, 0, []) (List.mem_of_getElem? (i := 28) rfl)) rfl (j := 2) rfl ?_
          refine zp_const (pc := 52) hx hb (zd_X6_value (52, .iconst 1, 1, 0, []) (List.mem_of_getElem? (i := 29) rfl)) rfl rfl ?_
          refine zp_add (n := ((b : Int) + 1)) (pc := 53) hx hb (zd_X6_value (53, .iadd, 1, 0, []) (List.mem_of_getElem? (i := 30) rfl)) (by omega) (zp_r0 (by omega) (by omega)) ?_
          refine zp_ialdN (j := (b + 1)) (v := (j9 : Int)) (N := N) (pc := 54) hx hb hw (zd_X6_value (54, .iaload, 1, 0, []) (List.mem_of_getElem? (i := 31) rfl)) (show zp_ia 1 41 = some (0, 0, 0, (-1000000), 1000000) from rfl) ⟨_, rfl, by decide⟩ hm.2.2.1 qcd (by omega) (by omega) ((hm.2.2.2.1 (b + 1)).trans o2) (fun hk66 => ?_)
          have hk66b := zp_int hk66
          refine zp_store (L' := [(7, 0, (j9 : Int)), (6, 0, 4), (4, 0, ((d : Int) + 1)), (5, 0, (b : Int)), (0, 2, (a : Int)), (1, 2, (xt9 : Int)), (2, 0, (i2 : Int)), (3, 2, (wd9 : Int))]) (pc := 55) hx hb hnL (zd_X6_value (55, .istore 7, 2, 0, []) (List.mem_of_getElem? (i := 32) rfl)) rfl rfl rfl ?_
          refine zp_load (pc := 57) hx hb (zd_X6_value (57, .iload 6, 2, 0, []) (List.mem_of_getElem? (i := 33) rfl)) rfl (j := 1) rfl ?_
          refine zp_const (pc := 59) hx hb (zd_X6_value (59, .iconst 1, 1, 0, []) (List.mem_of_getElem? (i := 34) rfl)) rfl rfl ?_
          refine zp_icmp (pc := 60) (tgt := 69) hx hb (zd_X6_value (60, .if_icmp .eq 9, 3, 0, []) (List.mem_of_getElem? (i := 35) rfl)) rfl (fun (hc67 : 4 = 1) => ?_) (fun (hc67 : ¬ (4 = 1)) => ?_)
          · exfalso
            omega
          · refine zp_load (pc := 63) hx hb (zd_X6_value (63, .iload 6, 2, 0, []) (List.mem_of_getElem? (i := 36) rfl)) rfl (j := 1) rfl ?_
            refine zp_const (pc := 65) hx hb (zd_X6_value (65, .iconst 2, 1, 0, []) (List.mem_of_getElem? (i := 37) rfl)) rfl rfl ?_
            refine zp_icmp (pc := 66) (tgt := 123) hx hb (zd_X6_value (66, .if_icmp .ne 57, 3, 0, []) (List.mem_of_getElem? (i := 38) rfl)) rfl (fun (hc68 : ¬ 4 = 2) => ?_) (fun (hc68 : ¬ (¬ 4 = 2)) => ?_)
            · refine zp_load (pc := 123) hx hb (zd_X6_value (123, .iload 4, 2, 0, []) (List.mem_of_getElem? (i := 67) rfl)) rfl (j := 2) rfl ?_
              refine zp_const (pc := 125) hx hb (zd_X6_value (125, .iconst 1, 1, 0, []) (List.mem_of_getElem? (i := 68) rfl)) rfl rfl ?_
              refine zp_icmp (pc := 126) (tgt := 133) hx hb (zd_X6_value (126, .if_icmp .ge 7, 3, 0, []) (List.mem_of_getElem? (i := 69) rfl)) rfl (fun (hc69 : 1 ≤ ((d : Int) + 1)) => ?_) (fun (hc69 : ¬ (1 ≤ ((d : Int) + 1))) => ?_)
              · refine zp_load (pc := 133) hx hb (zd_X6_value (133, .aload_n 0, 1, 0, []) (List.mem_of_getElem? (i := 72) rfl)) rfl (j := 4) rfl ?_
                refine zp_getf (n := (st : Int)) (pc := 134) hx hb hE hw (zd_X6_value (134, .getfield 15, 3, 0, []) (List.mem_of_getElem? (i := 73) rfl)) (j := 5) rfl rfl rfl hp hm.1 ?_
                refine zp_load (pc := 137) hx hb (zd_X6_value (137, .iload 4, 2, 0, []) (List.mem_of_getElem? (i := 74) rfl)) rfl (j := 2) rfl ?_
                refine zp_const (pc := 139) hx hb (zd_X6_value (139, .iconst 1, 1, 0, []) (List.mem_of_getElem? (i := 75) rfl)) rfl rfl ?_
                refine zp_sub (n := (d : Int)) (pc := 140) hx hb (zd_X6_value (140, .isub, 1, 0, []) (List.mem_of_getElem? (i := 76) rfl)) (by omega) (zp_r0 (by omega) (by omega)) ?_
                refine zp_lald (j := d) (v := v1) (pc := 141) hx hb hw (zd_X6_value (141, .laload, 1, 0, []) (List.mem_of_getElem? (i := 77) rfl)) (show zp_ia 2 28 = some (64, 1, 0, (-9223372036854775808), 9223372036854775807) from rfl) qst (by omega) (by omega) e1 ?_
                refine zp_store (L' := [(8, 1, v1), (7, 0, (j9 : Int)), (6, 0, 4), (4, 0, ((d : Int) + 1)), (5, 0, (b : Int)), (0, 2, (a : Int)), (1, 2, (xt9 : Int)), (2, 0, (i2 : Int)), (3, 2, (wd9 : Int))]) (pc := 142) hx hb hnL (zd_X6_value (142, .lstore 8, 2, 0, []) (List.mem_of_getElem? (i := 78) rfl)) rfl rfl rfl ?_
                refine zp_load (pc := 144) hx hb (zd_X6_value (144, .iload 6, 2, 0, []) (List.mem_of_getElem? (i := 79) rfl)) rfl (j := 2) rfl ?_
                refine zp_if (pc := 146) (tgt := 152) hx hb (zd_X6_value (146, .ifCond .ne 6, 3, 0, []) (List.mem_of_getElem? (i := 80) rfl)) rfl (fun (hc71 : ¬ 4 = 0) => ?_) (fun (hc71 : ¬ (¬ 4 = 0)) => ?_)
                · refine zp_load (pc := 152) hx hb (zd_X6_value (152, .iload 6, 2, 0, []) (List.mem_of_getElem? (i := 83) rfl)) rfl (j := 2) rfl ?_
                  refine zp_const (pc := 154) hx hb (zd_X6_value (154, .iconst 3, 1, 0, []) (List.mem_of_getElem? (i := 84) rfl)) rfl rfl ?_
                  refine zp_icmp (pc := 155) (tgt := 174) hx hb (zd_X6_value (155, .if_icmp .ne 19, 3, 0, []) (List.mem_of_getElem? (i := 85) rfl)) rfl (fun (hc72 : ¬ 4 = 3) => ?_) (fun (hc72 : ¬ (¬ 4 = 3)) => ?_)
                  · refine zp_load (pc := 174) hx hb (zd_X6_value (174, .iload 6, 2, 0, []) (List.mem_of_getElem? (i := 96) rfl)) rfl (j := 2) rfl ?_
                    refine zp_const (pc := 176) hx hb (zd_X6_value (176, .iconst 4, 1, 0, []) (List.mem_of_getElem? (i := 97) rfl)) rfl rfl ?_
                    refine zp_icmp (pc := 177) (tgt := 186) hx hb (zd_X6_value (177, .if_icmp .eq 9, 3, 0, []) (List.mem_of_getElem? (i := 98) rfl)) rfl (fun (hc73 : 4 = 4) => ?_) (fun (hc73 : ¬ (4 = 4)) => ?_)
                    · refine zp_load (pc := 186) hx hb (zd_X6_value (186, .lload 8, 2, 0, []) (List.mem_of_getElem? (i := 102) rfl)) rfl (j := 0) rfl ?_
                      refine zp_const (pc := 188) hx hb (zd_X6_value (188, .lconst 1, 1, 0, []) (List.mem_of_getElem? (i := 103) rfl)) rfl rfl ?_
                      refine zp_lcmp (pc := 189) (tgt := 197) hx hb (zd_X6_value (189, .lcmp, 1, 0, []) (List.mem_of_getElem? (i := 104) rfl)) (zd_X6_value (190, .ifCond .ne 7, 3, 0, []) (List.mem_of_getElem? (i := 105) rfl)) rfl (fun (hc74 : ¬ v1 = 1) => ?_) (fun (hc74 : ¬ (¬ v1 = 1)) => ?_)
                      · refine zp_const (pc := 197) hx hb (zd_X6_value (197, .iconst 0, 1, 0, []) (List.mem_of_getElem? (i := 108) rfl)) rfl rfl ?_
                        refine zp_load (pc := 198) hx hb (zd_X6_value (198, .iload 6, 2, 0, []) (List.mem_of_getElem? (i := 109) rfl)) rfl (j := 2) rfl ?_
                        refine zp_const (pc := 200) hx hb (zd_X6_value (200, .iconst 5, 1, 0, []) (List.mem_of_getElem? (i := 110) rfl)) rfl rfl ?_
                        refine zp_icmp (pc := 201) (tgt := 208) hx hb (zd_X6_value (201, .if_icmp .ne 7, 3, 0, []) (List.mem_of_getElem? (i := 111) rfl)) rfl (fun (hc75 : ¬ 4 = 5) => ?_) (fun (hc75 : ¬ (¬ 4 = 5)) => ?_)
                        · refine zp_const (pc := 208) hx hb (zd_X6_value (208, .iconst 0, 1, 0, []) (List.mem_of_getElem? (i := 114) rfl)) rfl rfl ?_
                          refine zp_icmp (pc := 209) (tgt := 218) hx hb (zd_X6_value (209, .if_icmp .eq 9, 3, 0, []) (List.mem_of_getElem? (i := 115) rfl)) rfl (fun (hc76 : 0 = 0) => ?_) (fun (hc76 : ¬ (0 = 0)) => ?_)
                          · refine zp_load (pc := 218) hx hb (zd_X6_value (218, .iload 7, 2, 0, []) (List.mem_of_getElem? (i := 118) rfl)) rfl (j := 1) rfl ?_
                            refine zp_const (pc := 220) hx hb (zd_X6_value (220, .iconst 2, 1, 0, []) (List.mem_of_getElem? (i := 119) rfl)) rfl rfl ?_
                            refine zp_sub (n := ((j9 : Int) - 2)) (pc := 221) hx hb (zd_X6_value (221, .isub, 1, 0, []) (List.mem_of_getElem? (i := 120) rfl)) (by omega) (zp_r0 (by omega) (by omega)) ?_
                            refine zp_load (pc := 222) hx hb (zd_X6_value (222, .iload 5, 2, 0, []) (List.mem_of_getElem? (i := 121) rfl)) rfl (j := 4) rfl ?_
                            refine zp_icmp (pc := 224) (tgt := 464) hx hb (zd_X6_value (224, .if_icmp .le 240, 3, 0, []) (List.mem_of_getElem? (i := 122) rfl)) rfl (fun (hc77 : ((j9 : Int) - 2) ≤ (b : Int)) => ?_) (fun (hc77 : ¬ (((j9 : Int) - 2) ≤ (b : Int))) => ?_)
                            · refine zp_iinc (L' := [(5, 0, ((b : Int) + 2)), (8, 1, v1), (7, 0, (j9 : Int)), (6, 0, 4), (4, 0, ((d : Int) + 1)), (0, 2, (a : Int)), (1, 2, (xt9 : Int)), (2, 0, (i2 : Int)), (3, 2, (wd9 : Int))]) (n := ((b : Int) + 2)) (pc := 464) hx hb hnL (zd_X6_value (464, .iinc 5 2, 3, 0, []) (List.mem_of_getElem? (i := 223) rfl)) (j := 4) rfl (by omega) (zp_r0 (by omega) (by omega)) rfl rfl ?_
                              refine zp_goto (tgt := 13) (pc := 467) hx hb (zd_X6_value (467, .goto (-454), 3, 0, []) (List.mem_of_getElem? (i := 224) rfl)) rfl ?_
                              refine zp_drop (L' := [(4, 0, ((d : Int) + 1)), (5, 0, (j9 : Int)), (0, 2, (a : Int)), (1, 2, (xt9 : Int)), (2, 0, (i2 : Int)), (3, 2, (wd9 : Int))]) (by simp <;> omega) ?_
                              exact kj (by omega)
                            · refine zp_load (pc := 227) hx hb (zd_X6_value (227, .iload 7, 2, 0, []) (List.mem_of_getElem? (i := 123) rfl)) rfl (j := 1) rfl ?_
                              refine zp_const (pc := 229) hx hb (zd_X6_value (229, .iconst 2, 1, 0, []) (List.mem_of_getElem? (i := 124) rfl)) rfl rfl ?_
                              refine zp_sub (n := ((j9 : Int) - 2)) (pc := 230) hx hb (zd_X6_value (230, .isub, 1, 0, []) (List.mem_of_getElem? (i := 125) rfl)) (by omega) (zp_r0 (by omega) (by omega)) ?_
                              refine zp_store (L' := [(5, 0, ((j9 : Int) - 2)), (8, 1, v1), (7, 0, (j9 : Int)), (6, 0, 4), (4, 0, ((d : Int) + 1)), (0, 2, (a : Int)), (1, 2, (xt9 : Int)), (2, 0, (i2 : Int)), (3, 2, (wd9 : Int))]) (pc := 231) hx hb hnL (zd_X6_value (231, .istore 5, 2, 0, []) (List.mem_of_getElem? (i := 126) rfl)) rfl rfl rfl ?_
                              refine zp_goto (tgt := 464) (pc := 233) hx hb (zd_X6_value (233, .goto 231, 3, 0, []) (List.mem_of_getElem? (i := 127) rfl)) rfl ?_
                              refine zp_iinc (L' := [(5, 0, (j9 : Int)), (8, 1, v1), (7, 0, (j9 : Int)), (6, 0, 4), (4, 0, ((d : Int) + 1)), (0, 2, (a : Int)), (1, 2, (xt9 : Int)), (2, 0, (i2 : Int)), (3, 2, (wd9 : Int))]) (n := (j9 : Int)) (pc := 464) hx hb hnL (zd_X6_value (464, .iinc 5 2, 3, 0, []) (List.mem_of_getElem? (i := 223) rfl)) (j := 0) rfl (by omega) (zp_r0 (by omega) (by omega)) rfl rfl ?_
                              refine zp_goto (tgt := 13) (pc := 467) hx hb (zd_X6_value (467, .goto (-454), 3, 0, []) (List.mem_of_getElem? (i := 224) rfl)) rfl ?_
                              refine zp_drop (L' := [(4, 0, ((d : Int) + 1)), (5, 0, (j9 : Int)), (0, 2, (a : Int)), (1, 2, (xt9 : Int)), (2, 0, (i2 : Int)), (3, 2, (wd9 : Int))]) (by simp <;> omega) ?_
                              exact kj (by omega)
                          · exfalso
                            omega
                        · exfalso
                          omega
                      · refine zp_const (pc := 193) hx hb (zd_X6_value (193, .iconst 1, 1, 0, []) (List.mem_of_getElem? (i := 106) rfl)) rfl rfl ?_
                        refine zp_goto (tgt := 198) (pc := 194) hx hb (zd_X6_value (194, .goto 4, 3, 0, []) (List.mem_of_getElem? (i := 107) rfl)) rfl ?_
                        refine zp_load (pc := 198) hx hb (zd_X6_value (198, .iload 6, 2, 0, []) (List.mem_of_getElem? (i := 109) rfl)) rfl (j := 2) rfl ?_
                        refine zp_const (pc := 200) hx hb (zd_X6_value (200, .iconst 5, 1, 0, []) (List.mem_of_getElem? (i := 110) rfl)) rfl rfl ?_
                        refine zp_icmp (pc := 201) (tgt := 208) hx hb (zd_X6_value (201, .if_icmp .ne 7, 3, 0, []) (List.mem_of_getElem? (i := 111) rfl)) rfl (fun (hc78 : ¬ 4 = 5) => ?_) (fun (hc78 : ¬ (¬ 4 = 5)) => ?_)
                        · refine zp_const (pc := 208) hx hb (zd_X6_value (208, .iconst 0, 1, 0, []) (List.mem_of_getElem? (i := 114) rfl)) rfl rfl ?_
                          refine zp_icmp (pc := 209) (tgt := 218) hx hb (zd_X6_value (209, .if_icmp .eq 9, 3, 0, []) (List.mem_of_getElem? (i := 115) rfl)) rfl (fun (hc79 : 1 = 0) => ?_) (fun (hc79 : ¬ (1 = 0)) => ?_)
                          · exfalso
                            omega
                          · refine zp_iinc (L' := [(4, 0, (d : Int)), (8, 1, v1), (7, 0, (j9 : Int)), (6, 0, 4), (5, 0, (b : Int)), (0, 2, (a : Int)), (1, 2, (xt9 : Int)), (2, 0, (i2 : Int)), (3, 2, (wd9 : Int))]) (n := (d : Int)) (pc := 212) hx hb hnL (zd_X6_value (212, .iinc 4 (-1), 3, 0, []) (List.mem_of_getElem? (i := 116) rfl)) (j := 3) rfl (by omega) (zp_r0 (by omega) (by omega)) rfl rfl ?_
                            refine zp_goto (tgt := 464) (pc := 215) hx hb (zd_X6_value (215, .goto 249, 3, 0, []) (List.mem_of_getElem? (i := 117) rfl)) rfl ?_
                            refine zp_iinc (L' := [(5, 0, ((b : Int) + 2)), (4, 0, (d : Int)), (8, 1, v1), (7, 0, (j9 : Int)), (6, 0, 4), (0, 2, (a : Int)), (1, 2, (xt9 : Int)), (2, 0, (i2 : Int)), (3, 2, (wd9 : Int))]) (n := ((b : Int) + 2)) (pc := 464) hx hb hnL (zd_X6_value (464, .iinc 5 2, 3, 0, []) (List.mem_of_getElem? (i := 223) rfl)) (j := 4) rfl (by omega) (zp_r0 (by omega) (by omega)) rfl rfl ?_
                            refine zp_goto (tgt := 13) (pc := 467) hx hb (zd_X6_value (467, .goto (-454), 3, 0, []) (List.mem_of_getElem? (i := 224) rfl)) rfl ?_
                            refine zp_drop (L' := [(4, 0, (d : Int)), (5, 0, ((b : Int) + 2)), (0, 2, (a : Int)), (1, 2, (xt9 : Int)), (2, 0, (i2 : Int)), (3, 2, (wd9 : Int))]) (by simp) ?_
                            exact kn (by omega)
                        · exfalso
                          omega
                    · exfalso
                      omega
                  · exfalso
                    omega
                · exfalso
                  omega
              · exfalso
                omega
            · exfalso
              omega
  have step_b5 : ∀ (b d j9 : Nat) (v1 : Int) (G : Nat → Nat → Int), b < e9 → d < 63 → b + 2 ≤ j9 → j9 ≤ e9 → zgV a xt9 cd st wd9 N C Wd G → C b = 5 → C (b + 1) = (j9 : Int) → G st (2000 + d) = v1 → (v1 = 0 ∨ v1 = 1) → (v1 = 1 → zp_J p l e R s m args below meth c Q w u [] 13 [(4, 0, ((d + 1 : Nat) : Int)), (5, 0, ((j9 : Nat) : Int)), (0, 2, (a : Int)), (1, 2, (xt9 : Int)), (2, 0, (i2 : Int)), (3, 2, (wd9 : Int))] [] u.1 G) → (¬ v1 = 1 → zp_J p l e R s m args below meth c Q w u [] 13 [(4, 0, ((d : Nat) : Int)), (5, 0, ((b + 2 : Nat) : Int)), (0, 2, (a : Int)), (1, 2, (xt9 : Int)), (2, 0, (i2 : Int)), (3, 2, (wd9 : Int))] [] u.1 G) → zp_J p l e R s m args below meth c Q w u [] 13 [(4, 0, ((d + 1 : Nat) : Int)), (5, 0, ((b : Nat) : Int)), (0, 2, (a : Int)), (1, 2, (xt9 : Int)), (2, 0, (i2 : Int)), (3, 2, (wd9 : Int))] [] u.1 G := by
    clear step_l1 step_l2 exitv step_nt step_b4
    intro b d j9 v1 G hb2 hd hj1 hj2 hm o1 o2 e1 ht kj kn
    have ho1 : G cd (2000 + b) = 5 := (hm.2.2.2.1 b).trans o1
    refine zp_drop (L' := [(4, 0, ((d : Int) + 1)), (5, 0, (b : Int)), (0, 2, (a : Int)), (1, 2, (xt9 : Int)), (2, 0, (i2 : Int)), (3, 2, (wd9 : Int))]) (by simp <;> omega) ?_
    have hl13 := hm.2.2.1
    refine zp_load (pc := 13) hx hb (zd_X6_value (13, .iload 5, 2, 0, []) (List.mem_of_getElem? (i := 9) rfl)) rfl (j := 1) rfl ?_
    refine zp_if (pc := 15) (tgt := 470) hx hb (zd_X6_value (15, .ifCond .lt 455, 3, 0, []) (List.mem_of_getElem? (i := 10) rfl)) rfl (fun (hc80 : (b : Int) < 0) => ?_) (fun (hc80 : ¬ ((b : Int) < 0)) => ?_)
    · exfalso
      omega
    · refine zp_load (pc := 18) hx hb (zd_X6_value (18, .iload 5, 2, 0, []) (List.mem_of_getElem? (i := 11) rfl)) rfl (j := 1) rfl ?_
      refine zp_const (pc := 20) hx hb (zd_X6_value (20, .iconst 1, 1, 0, []) (List.mem_of_getElem? (i := 12) rfl)) rfl rfl ?_
      refine zp_add (n := ((b : Int) + 1)) (pc := 21) hx hb (zd_X6_value (21, .iadd, 1, 0, []) (List.mem_of_getElem? (i := 13) rfl)) (by omega) (zp_r0 (by omega) (by omega)) ?_
      refine zp_load (pc := 22) hx hb (zd_X6_value (22, .aload_n 1, 1, 0, []) (List.mem_of_getElem? (i := 14) rfl)) rfl (j := 3) rfl ?_
      refine zp_getf (n := (cd : Int)) (pc := 23) hx hb hE hw (zd_X6_value (23, .getfield 86, 3, 0, []) (List.mem_of_getElem? (i := 15) rfl)) (j := 10) rfl rfl rfl qxt hm.2.1 ?_
      refine zp_alenN (N := N) (pc := 26) hx hb hw (zd_X6_value (26, .arraylength, 1, 0, []) (List.mem_of_getElem? (i := 16) rfl)) qcd ⟨_, rfl, by decide, by decide⟩ hm.2.2.1 ?_
      refine zp_icmp (pc := 27) (tgt := 470) hx hb (zd_X6_value (27, .if_icmp .ge 443, 3, 0, []) (List.mem_of_getElem? (i := 17) rfl)) rfl (fun (hc81 : (N : Int) ≤ ((b : Int) + 1)) => ?_) (fun (hc81 : ¬ ((N : Int) ≤ ((b : Int) + 1))) => ?_)
      · exfalso
        omega
      · refine zp_load (pc := 30) hx hb (zd_X6_value (30, .iload 4, 2, 0, []) (List.mem_of_getElem? (i := 18) rfl)) rfl (j := 0) rfl ?_
        refine zp_const (pc := 32) hx hb (zd_X6_value (32, .bipush 64, 2, 0, []) (List.mem_of_getElem? (i := 19) rfl)) rfl rfl ?_
        refine zp_icmp (pc := 34) (tgt := 470) hx hb (zd_X6_value (34, .if_icmp .ge 436, 3, 0, []) (List.mem_of_getElem? (i := 20) rfl)) rfl (fun (hc82 : 64 ≤ ((d : Int) + 1)) => ?_) (fun (hc82 : ¬ (64 ≤ ((d : Int) + 1))) => ?_)
        · exfalso
          omega
        · refine zp_load (pc := 37) hx hb (zd_X6_value (37, .aload_n 1, 1, 0, []) (List.mem_of_getElem? (i := 21) rfl)) rfl (j := 3) rfl ?_
          refine zp_getf (n := (cd : Int)) (pc := 38) hx hb hE hw (zd_X6_value (38, .getfield 86, 3, 0, []) (List.mem_of_getElem? (i := 22) rfl)) (j := 10) rfl rfl rfl qxt hm.2.1 ?_
          refine zp_load (pc := 41) hx hb (zd_X6_value (41, .iload 5, 2, 0, []) (List.mem_of_getElem? (i := 23) rfl)) rfl (j := 1) rfl ?_
          refine zp_ialdN (j := b) (v := 5) (N := N) (pc := 43) hx hb hw (zd_X6_value (43, .iaload, 1, 0, []) (List.mem_of_getElem? (i := 24) rfl)) (show zp_ia 1 41 = some (0, 0, 0, (-1000000), 1000000) from rfl) ⟨_, rfl, by decide⟩ hm.2.2.1 qcd (by omega) (by omega) ho1 (fun hk83 => ?_)
          have hk83b := zp_int hk83
          refine zp_store (L' := [(6, 0, 5), (4, 0, ((d : Int) + 1)), (5, 0, (b : Int)), (0, 2, (a : Int)), (1, 2, (xt9 : Int)), (2, 0, (i2 : Int)), (3, 2, (wd9 : Int))]) (pc := 44) hx hb hnL (zd_X6_value (44, .istore 6, 2, 0, []) (List.mem_of_getElem? (i := 25) rfl)) rfl rfl rfl ?_
          refine zp_load (pc := 46) hx hb (zd_X6_value (46, .aload_n 1, 1, 0, []) (List.mem_of_getElem? (i := 26) rfl)) rfl (j := 4) rfl ?_
          refine zp_getf (n := (cd : Int)) (pc := 47) hx hb hE hw (zd_X6_value (47, .getfield 86, 3, 0, []) (List.mem_of_getElem? (i := 27) rfl)) (j := 10) rfl rfl rfl qxt hm.2.1 ?_
          refine zp_load (pc := 50) hx hb (zd_X6_value (50, .iload 5, 2, 0, []) (List.mem_of_getElem? (i := 28) rfl)) rfl (j := 2) rfl ?_
          refine zp_const (pc := 52) hx hb (zd_X6_value (52, .iconst 1, 1, 0, []) (List.mem_of_getElem? (i := 29) rfl)) rfl rfl ?_
          refine zp_add (n := ((b : Int) + 1)) (pc := 53) hx hb (zd_X6_value (53, .iadd, 1, 0, []) (List.mem_of_getElem? (i := 30) rfl)) (by omega) (zp_r0 (by omega) (by omega)) ?_
          refine zp_ialdN (j := (b + 1)) (v := (j9 : Int)) (N := N) (pc := 54) hx hb hw (zd_X6_value (54, .iaload, 1, 0, []) (List.mem_of_getElem? (i := 31) rfl)) (show zp_ia 1 41 = some (0, 0, 0, (-1000000), 1000000) from rfl) ⟨_, rfl, by decide⟩ hm.2.2.1 qcd (by omega) (by omega) ((hm.2.2.2.1 (b + 1)).trans o2) (fun hk84 => ?_)
          have hk84b := zp_int hk84
          refine zp_store (L' := [(7, 0, (j9 : Int)), (6, 0, 5), (4, 0, ((d : Int) + 1)), (5, 0, (b : Int)), (0, 2, (a : Int)), (1, 2, (xt9 : Int)), (2, 0, (i2 : Int)), (3, 2, (wd9 : Int))]) (pc := 55) hx hb hnL (zd_X6_value (55, .istore 7, 2, 0, []) (List.mem_of_getElem? (i := 32) rfl)) rfl rfl rfl ?_
          refine zp_load (pc := 57) hx hb (zd_X6_value (57, .iload 6, 2, 0, []) (List.mem_of_getElem? (i := 33) rfl)) rfl (j := 1) rfl ?_
          refine zp_const (pc := 59) hx hb (zd_X6_value (59, .iconst 1, 1, 0, []) (List.mem_of_getElem? (i := 34) rfl)) rfl rfl ?_
          refine zp_icmp (pc := 60) (tgt := 69) hx hb (zd_X6_value (60, .if_icmp .eq 9, 3, 0, []) (List.mem_of_getElem? (i := 35) rfl)) rfl (fun (hc85 : 5 = 1) => ?_) (fun (hc85 : ¬ (5 = 1)) => ?_)
          · exfalso
            omega
          · refine zp_load (pc := 63) hx hb (zd_X6_value (63, .iload 6, 2, 0, []) (List.mem_of_getElem? (i := 36) rfl)) rfl (j := 1) rfl ?_
            refine zp_const (pc := 65) hx hb (zd_X6_value (65, .iconst 2, 1, 0, []) (List.mem_of_getElem? (i := 37) rfl)) rfl rfl ?_
            refine zp_icmp (pc := 66) (tgt := 123) hx hb (zd_X6_value (66, .if_icmp .ne 57, 3, 0, []) (List.mem_of_getElem? (i := 38) rfl)) rfl (fun (hc86 : ¬ 5 = 2) => ?_) (fun (hc86 : ¬ (¬ 5 = 2)) => ?_)
            · refine zp_load (pc := 123) hx hb (zd_X6_value (123, .iload 4, 2, 0, []) (List.mem_of_getElem? (i := 67) rfl)) rfl (j := 2) rfl ?_
              refine zp_const (pc := 125) hx hb (zd_X6_value (125, .iconst 1, 1, 0, []) (List.mem_of_getElem? (i := 68) rfl)) rfl rfl ?_
              refine zp_icmp (pc := 126) (tgt := 133) hx hb (zd_X6_value (126, .if_icmp .ge 7, 3, 0, []) (List.mem_of_getElem? (i := 69) rfl)) rfl (fun (hc87 : 1 ≤ ((d : Int) + 1)) => ?_) (fun (hc87 : ¬ (1 ≤ ((d : Int) + 1))) => ?_)
              · refine zp_load (pc := 133) hx hb (zd_X6_value (133, .aload_n 0, 1, 0, []) (List.mem_of_getElem? (i := 72) rfl)) rfl (j := 4) rfl ?_
                refine zp_getf (n := (st : Int)) (pc := 134) hx hb hE hw (zd_X6_value (134, .getfield 15, 3, 0, []) (List.mem_of_getElem? (i := 73) rfl)) (j := 5) rfl rfl rfl hp hm.1 ?_
                refine zp_load (pc := 137) hx hb (zd_X6_value (137, .iload 4, 2, 0, []) (List.mem_of_getElem? (i := 74) rfl)) rfl (j := 2) rfl ?_
                refine zp_const (pc := 139) hx hb (zd_X6_value (139, .iconst 1, 1, 0, []) (List.mem_of_getElem? (i := 75) rfl)) rfl rfl ?_
                refine zp_sub (n := (d : Int)) (pc := 140) hx hb (zd_X6_value (140, .isub, 1, 0, []) (List.mem_of_getElem? (i := 76) rfl)) (by omega) (zp_r0 (by omega) (by omega)) ?_
                refine zp_lald (j := d) (v := v1) (pc := 141) hx hb hw (zd_X6_value (141, .laload, 1, 0, []) (List.mem_of_getElem? (i := 77) rfl)) (show zp_ia 2 28 = some (64, 1, 0, (-9223372036854775808), 9223372036854775807) from rfl) qst (by omega) (by omega) e1 ?_
                refine zp_store (L' := [(8, 1, v1), (7, 0, (j9 : Int)), (6, 0, 5), (4, 0, ((d : Int) + 1)), (5, 0, (b : Int)), (0, 2, (a : Int)), (1, 2, (xt9 : Int)), (2, 0, (i2 : Int)), (3, 2, (wd9 : Int))]) (pc := 142) hx hb hnL (zd_X6_value (142, .lstore 8, 2, 0, []) (List.mem_of_getElem? (i := 78) rfl)) rfl rfl rfl ?_
                refine zp_load (pc := 144) hx hb (zd_X6_value (144, .iload 6, 2, 0, []) (List.mem_of_getElem? (i := 79) rfl)) rfl (j := 2) rfl ?_
                refine zp_if (pc := 146) (tgt := 152) hx hb (zd_X6_value (146, .ifCond .ne 6, 3, 0, []) (List.mem_of_getElem? (i := 80) rfl)) rfl (fun (hc89 : ¬ 5 = 0) => ?_) (fun (hc89 : ¬ (¬ 5 = 0)) => ?_)
                · refine zp_load (pc := 152) hx hb (zd_X6_value (152, .iload 6, 2, 0, []) (List.mem_of_getElem? (i := 83) rfl)) rfl (j := 2) rfl ?_
                  refine zp_const (pc := 154) hx hb (zd_X6_value (154, .iconst 3, 1, 0, []) (List.mem_of_getElem? (i := 84) rfl)) rfl rfl ?_
                  refine zp_icmp (pc := 155) (tgt := 174) hx hb (zd_X6_value (155, .if_icmp .ne 19, 3, 0, []) (List.mem_of_getElem? (i := 85) rfl)) rfl (fun (hc90 : ¬ 5 = 3) => ?_) (fun (hc90 : ¬ (¬ 5 = 3)) => ?_)
                  · refine zp_load (pc := 174) hx hb (zd_X6_value (174, .iload 6, 2, 0, []) (List.mem_of_getElem? (i := 96) rfl)) rfl (j := 2) rfl ?_
                    refine zp_const (pc := 176) hx hb (zd_X6_value (176, .iconst 4, 1, 0, []) (List.mem_of_getElem? (i := 97) rfl)) rfl rfl ?_
                    refine zp_icmp (pc := 177) (tgt := 186) hx hb (zd_X6_value (177, .if_icmp .eq 9, 3, 0, []) (List.mem_of_getElem? (i := 98) rfl)) rfl (fun (hc91 : 5 = 4) => ?_) (fun (hc91 : ¬ (5 = 4)) => ?_)
                    · exfalso
                      omega
                    · refine zp_load (pc := 180) hx hb (zd_X6_value (180, .iload 6, 2, 0, []) (List.mem_of_getElem? (i := 99) rfl)) rfl (j := 2) rfl ?_
                      refine zp_const (pc := 182) hx hb (zd_X6_value (182, .iconst 5, 1, 0, []) (List.mem_of_getElem? (i := 100) rfl)) rfl rfl ?_
                      refine zp_icmp (pc := 183) (tgt := 236) hx hb (zd_X6_value (183, .if_icmp .ne 53, 3, 0, []) (List.mem_of_getElem? (i := 101) rfl)) rfl (fun (hc92 : ¬ 5 = 5) => ?_) (fun (hc92 : ¬ (¬ 5 = 5)) => ?_)
                      · exfalso
                        omega
                      · refine zp_load (pc := 186) hx hb (zd_X6_value (186, .lload 8, 2, 0, []) (List.mem_of_getElem? (i := 102) rfl)) rfl (j := 0) rfl ?_
                        refine zp_const (pc := 188) hx hb (zd_X6_value (188, .lconst 1, 1, 0, []) (List.mem_of_getElem? (i := 103) rfl)) rfl rfl ?_
                        refine zp_lcmp (pc := 189) (tgt := 197) hx hb (zd_X6_value (189, .lcmp, 1, 0, []) (List.mem_of_getElem? (i := 104) rfl)) (zd_X6_value (190, .ifCond .ne 7, 3, 0, []) (List.mem_of_getElem? (i := 105) rfl)) rfl (fun (hc93 : ¬ v1 = 1) => ?_) (fun (hc93 : ¬ (¬ v1 = 1)) => ?_)
                        · refine zp_const (pc := 197) hx hb (zd_X6_value (197, .iconst 0, 1, 0, []) (List.mem_of_getElem? (i := 108) rfl)) rfl rfl ?_
                          refine zp_load (pc := 198) hx hb (zd_X6_value (198, .iload 6, 2, 0, []) (List.mem_of_getElem? (i := 109) rfl)) rfl (j := 2) rfl ?_
                          refine zp_const (pc := 200) hx hb (zd_X6_value (200, .iconst 5, 1, 0, []) (List.mem_of_getElem? (i := 110) rfl)) rfl rfl ?_
                          refine zp_icmp (pc := 201) (tgt := 208) hx hb (zd_X6_value (201, .if_icmp .ne 7, 3, 0, []) (List.mem_of_getElem? (i := 111) rfl)) rfl (fun (hc94 : ¬ 5 = 5) => ?_) (fun (hc94 : ¬ (¬ 5 = 5)) => ?_)
                          · exfalso
                            omega
                          · refine zp_const (pc := 204) hx hb (zd_X6_value (204, .iconst 1, 1, 0, []) (List.mem_of_getElem? (i := 112) rfl)) rfl rfl ?_
                            refine zp_goto (tgt := 209) (pc := 205) hx hb (zd_X6_value (205, .goto 4, 3, 0, []) (List.mem_of_getElem? (i := 113) rfl)) rfl ?_
                            refine zp_icmp (pc := 209) (tgt := 218) hx hb (zd_X6_value (209, .if_icmp .eq 9, 3, 0, []) (List.mem_of_getElem? (i := 115) rfl)) rfl (fun (hc95 : 0 = 1) => ?_) (fun (hc95 : ¬ (0 = 1)) => ?_)
                            · exfalso
                              omega
                            · refine zp_iinc (L' := [(4, 0, (d : Int)), (8, 1, v1), (7, 0, (j9 : Int)), (6, 0, 5), (5, 0, (b : Int)), (0, 2, (a : Int)), (1, 2, (xt9 : Int)), (2, 0, (i2 : Int)), (3, 2, (wd9 : Int))]) (n := (d : Int)) (pc := 212) hx hb hnL (zd_X6_value (212, .iinc 4 (-1), 3, 0, []) (List.mem_of_getElem? (i := 116) rfl)) (j := 3) rfl (by omega) (zp_r0 (by omega) (by omega)) rfl rfl ?_
                              refine zp_goto (tgt := 464) (pc := 215) hx hb (zd_X6_value (215, .goto 249, 3, 0, []) (List.mem_of_getElem? (i := 117) rfl)) rfl ?_
                              refine zp_iinc (L' := [(5, 0, ((b : Int) + 2)), (4, 0, (d : Int)), (8, 1, v1), (7, 0, (j9 : Int)), (6, 0, 5), (0, 2, (a : Int)), (1, 2, (xt9 : Int)), (2, 0, (i2 : Int)), (3, 2, (wd9 : Int))]) (n := ((b : Int) + 2)) (pc := 464) hx hb hnL (zd_X6_value (464, .iinc 5 2, 3, 0, []) (List.mem_of_getElem? (i := 223) rfl)) (j := 4) rfl (by omega) (zp_r0 (by omega) (by omega)) rfl rfl ?_
                              refine zp_goto (tgt := 13) (pc := 467) hx hb (zd_X6_value (467, .goto (-454), 3, 0, []) (List.mem_of_getElem? (i := 224) rfl)) rfl ?_
                              refine zp_drop (L' := [(4, 0, (d : Int)), (5, 0, ((b : Int) + 2)), (0, 2, (a : Int)), (1, 2, (xt9 : Int)), (2, 0, (i2 : Int)), (3, 2, (wd9 : Int))]) (by simp) ?_
                              exact kn (by omega)
                        · refine zp_const (pc := 193) hx hb (zd_X6_value (193, .iconst 1, 1, 0, []) (List.mem_of_getElem? (i := 106) rfl)) rfl rfl ?_
                          refine zp_goto (tgt := 198) (pc := 194) hx hb (zd_X6_value (194, .goto 4, 3, 0, []) (List.mem_of_getElem? (i := 107) rfl)) rfl ?_
                          refine zp_load (pc := 198) hx hb (zd_X6_value (198, .iload 6, 2, 0, []) (List.mem_of_getElem? (i := 109) rfl)) rfl (j := 2) rfl ?_
                          refine zp_const (pc := 200) hx hb (zd_X6_value (200, .iconst 5, 1, 0, []) (List.mem_of_getElem? (i := 110) rfl)) rfl rfl ?_
                          refine zp_icmp (pc := 201) (tgt := 208) hx hb (zd_X6_value (201, .if_icmp .ne 7, 3, 0, []) (List.mem_of_getElem? (i := 111) rfl)) rfl (fun (hc96 : ¬ 5 = 5) => ?_) (fun (hc96 : ¬ (¬ 5 = 5)) => ?_)
                          · exfalso
                            omega
                          · refine zp_const (pc := 204) hx hb (zd_X6_value (204, .iconst 1, 1, 0, []) (List.mem_of_getElem? (i := 112) rfl)) rfl rfl ?_
                            refine zp_goto (tgt := 209) (pc := 205) hx hb (zd_X6_value (205, .goto 4, 3, 0, []) (List.mem_of_getElem? (i := 113) rfl)) rfl ?_
                            refine zp_icmp (pc := 209) (tgt := 218) hx hb (zd_X6_value (209, .if_icmp .eq 9, 3, 0, []) (List.mem_of_getElem? (i := 115) rfl)) rfl (fun (hc97 : 1 = 1) => ?_) (fun (hc97 : ¬ (1 = 1)) => ?_)
                            · refine zp_load (pc := 218) hx hb (zd_X6_value (218, .iload 7, 2, 0, []) (List.mem_of_getElem? (i := 118) rfl)) rfl (j := 1) rfl ?_
                              refine zp_const (pc := 220) hx hb (zd_X6_value (220, .iconst 2, 1, 0, []) (List.mem_of_getElem? (i := 119) rfl)) rfl rfl ?_
                              refine zp_sub (n := ((j9 : Int) - 2)) (pc := 221) hx hb (zd_X6_value (221, .isub, 1, 0, []) (List.mem_of_getElem? (i := 120) rfl)) (by omega) (zp_r0 (by omega) (by omega)) ?_
                              refine zp_load (pc := 222) hx hb (zd_X6_value (222, .iload 5, 2, 0, []) (List.mem_of_getElem? (i := 121) rfl)) rfl (j := 4) rfl ?_
                              refine zp_icmp (pc := 224) (tgt := 464) hx hb (zd_X6_value (224, .if_icmp .le 240, 3, 0, []) (List.mem_of_getElem? (i := 122) rfl)) rfl (fun (hc98 : ((j9 : Int) - 2) ≤ (b : Int)) => ?_) (fun (hc98 : ¬ (((j9 : Int) - 2) ≤ (b : Int))) => ?_)
                              · refine zp_iinc (L' := [(5, 0, ((b : Int) + 2)), (8, 1, v1), (7, 0, (j9 : Int)), (6, 0, 5), (4, 0, ((d : Int) + 1)), (0, 2, (a : Int)), (1, 2, (xt9 : Int)), (2, 0, (i2 : Int)), (3, 2, (wd9 : Int))]) (n := ((b : Int) + 2)) (pc := 464) hx hb hnL (zd_X6_value (464, .iinc 5 2, 3, 0, []) (List.mem_of_getElem? (i := 223) rfl)) (j := 4) rfl (by omega) (zp_r0 (by omega) (by omega)) rfl rfl ?_
                                refine zp_goto (tgt := 13) (pc := 467) hx hb (zd_X6_value (467, .goto (-454), 3, 0, []) (List.mem_of_getElem? (i := 224) rfl)) rfl ?_
                                refine zp_drop (L' := [(4, 0, ((d : Int) + 1)), (5, 0, (j9 : Int)), (0, 2, (a : Int)), (1, 2, (xt9 : Int)), (2, 0, (i2 : Int)), (3, 2, (wd9 : Int))]) (by simp <;> omega) ?_
                                exact kj (by omega)
                              · refine zp_load (pc := 227) hx hb (zd_X6_value (227, .iload 7, 2, 0, []) (List.mem_of_getElem? (i := 123) rfl)) rfl (j := 1) rfl ?_
                                refine zp_const (pc := 229) hx hb (zd_X6_value (229, .iconst 2, 1, 0, []) (List.mem_of_getElem? (i := 124) rfl)) rfl rfl ?_
                                refine zp_sub (n := ((j9 : Int) - 2)) (pc := 230) hx hb (zd_X6_value (230, .isub, 1, 0, []) (List.mem_of_getElem? (i := 125) rfl)) (by omega) (zp_r0 (by omega) (by omega)) ?_
                                refine zp_store (L' := [(5, 0, ((j9 : Int) - 2)), (8, 1, v1), (7, 0, (j9 : Int)), (6, 0, 5), (4, 0, ((d : Int) + 1)), (0, 2, (a : Int)), (1, 2, (xt9 : Int)), (2, 0, (i2 : Int)), (3, 2, (wd9 : Int))]) (pc := 231) hx hb hnL (zd_X6_value (231, .istore 5, 2, 0, []) (List.mem_of_getElem? (i := 126) rfl)) rfl rfl rfl ?_
                                refine zp_goto (tgt := 464) (pc := 233) hx hb (zd_X6_value (233, .goto 231, 3, 0, []) (List.mem_of_getElem? (i := 127) rfl)) rfl ?_
                                refine zp_iinc (L' := [(5, 0, (j9 : Int)), (8, 1, v1), (7, 0, (j9 : Int)), (6, 0, 5), (4, 0, ((d : Int) + 1)), (0, 2, (a : Int)), (1, 2, (xt9 : Int)), (2, 0, (i2 : Int)), (3, 2, (wd9 : Int))]) (n := (j9 : Int)) (pc := 464) hx hb hnL (zd_X6_value (464, .iinc 5 2, 3, 0, []) (List.mem_of_getElem? (i := 223) rfl)) (j := 0) rfl (by omega) (zp_r0 (by omega) (by omega)) rfl rfl ?_
                                refine zp_goto (tgt := 13) (pc := 467) hx hb (zd_X6_value (467, .goto (-454), 3, 0, []) (List.mem_of_getElem? (i := 224) rfl)) rfl ?_
                                refine zp_drop (L' := [(4, 0, ((d : Int) + 1)), (5, 0, (j9 : Int)), (0, 2, (a : Int)), (1, 2, (xt9 : Int)), (2, 0, (i2 : Int)), (3, 2, (wd9 : Int))]) (by simp <;> omega) ?_
                                exact kj (by omega)
                            · exfalso
                              omega
                  · exfalso
                    omega
                · exfalso
                  omega
              · exfalso
                omega
            · exfalso
              omega
  have step_6 : ∀ (b d : Nat) (v1 v2 : Int) (G : Nat → Nat → Int), b < e9 → d + 2 < 64 → zgV a xt9 cd st wd9 N C Wd G → C b = 6 → G st (2000 + d) = v1 → G st (2000 + (d + 1)) = v2 → -2147483648 ≤ v1 ∧ v1 ≤ 2147483648 → -2147483648 ≤ v2 ∧ v2 ≤ 2147483648 → (∀ (v : Int) (G' : Nat → Nat → Int), yd_bn 20 v1 v2 = some v → zgV a xt9 cd st wd9 N C Wd G' → (∀ j, j < d → G' st (2000 + j) = G st (2000 + j)) → G' st (2000 + d) = v → zp_J p l e R s m args below meth c Q w u [] 13 [(4, 0, ((d + 1 : Nat) : Int)), (5, 0, ((b + 2 : Nat) : Int)), (0, 2, (a : Int)), (1, 2, (xt9 : Int)), (2, 0, (i2 : Int)), (3, 2, (wd9 : Int))] [] u.1 G') → (yd_bn 20 v1 v2 = none → x en = none) → zp_J p l e R s m args below meth c Q w u [] 13 [(4, 0, ((d + 2 : Nat) : Int)), (5, 0, ((b : Nat) : Int)), (0, 2, (a : Int)), (1, 2, (xt9 : Int)), (2, 0, (i2 : Int)), (3, 2, (wd9 : Int))] [] u.1 G := by
    clear step_l1 step_l2 exitv step_nt step_b4 step_b5
    intro b d v1 v2 G hb2 hd hm o1 e1 e2 bd1 bd2 kk kb
    have ho1 : G cd (2000 + b) = 6 := (hm.2.2.2.1 b).trans o1
    refine zp_drop (L' := [(4, 0, ((d : Int) + 2)), (5, 0, (b : Int)), (0, 2, (a : Int)), (1, 2, (xt9 : Int)), (2, 0, (i2 : Int)), (3, 2, (wd9 : Int))]) (by simp <;> omega) ?_
    have h99 : zk_rg 1 (-9000000000) := ⟨by decide, by decide⟩
    have hl13 := hm.2.2.1
    refine zp_load (pc := 13) hx hb (zd_X6_value (13, .iload 5, 2, 0, []) (List.mem_of_getElem? (i := 9) rfl)) rfl (j := 1) rfl ?_
    refine zp_if (pc := 15) (tgt := 470) hx hb (zd_X6_value (15, .ifCond .lt 455, 3, 0, []) (List.mem_of_getElem? (i := 10) rfl)) rfl (fun (hc99 : (b : Int) < 0) => ?_) (fun (hc99 : ¬ ((b : Int) < 0)) => ?_)
    · exfalso
      omega
    · refine zp_load (pc := 18) hx hb (zd_X6_value (18, .iload 5, 2, 0, []) (List.mem_of_getElem? (i := 11) rfl)) rfl (j := 1) rfl ?_
      refine zp_const (pc := 20) hx hb (zd_X6_value (20, .iconst 1, 1, 0, []) (List.mem_of_getElem? (i := 12) rfl)) rfl rfl ?_
      refine zp_add (n := ((b : Int) + 1)) (pc := 21) hx hb (zd_X6_value (21, .iadd, 1, 0, []) (List.mem_of_getElem? (i := 13) rfl)) (by omega) (zp_r0 (by omega) (by omega)) ?_
      refine zp_load (pc := 22) hx hb (zd_X6_value (22, .aload_n 1, 1, 0, []) (List.mem_of_getElem? (i := 14) rfl)) rfl (j := 3) rfl ?_
      refine zp_getf (n := (cd : Int)) (pc := 23) hx hb hE hw (zd_X6_value (23, .getfield 86, 3, 0, []) (List.mem_of_getElem? (i := 15) rfl)) (j := 10) rfl rfl rfl qxt hm.2.1 ?_
      refine zp_alenN (N := N) (pc := 26) hx hb hw (zd_X6_value (26, .arraylength, 1, 0, []) (List.mem_of_getElem? (i := 16) rfl)) qcd ⟨_, rfl, by decide, by decide⟩ hm.2.2.1 ?_
      refine zp_icmp (pc := 27) (tgt := 470) hx hb (zd_X6_value (27, .if_icmp .ge 443, 3, 0, []) (List.mem_of_getElem? (i := 17) rfl)) rfl (fun (hc100 : (N : Int) ≤ ((b : Int) + 1)) => ?_) (fun (hc100 : ¬ ((N : Int) ≤ ((b : Int) + 1))) => ?_)
      · exfalso
        omega
      · refine zp_load (pc := 30) hx hb (zd_X6_value (30, .iload 4, 2, 0, []) (List.mem_of_getElem? (i := 18) rfl)) rfl (j := 0) rfl ?_
        refine zp_const (pc := 32) hx hb (zd_X6_value (32, .bipush 64, 2, 0, []) (List.mem_of_getElem? (i := 19) rfl)) rfl rfl ?_
        refine zp_icmp (pc := 34) (tgt := 470) hx hb (zd_X6_value (34, .if_icmp .ge 436, 3, 0, []) (List.mem_of_getElem? (i := 20) rfl)) rfl (fun (hc101 : 64 ≤ ((d : Int) + 2)) => ?_) (fun (hc101 : ¬ (64 ≤ ((d : Int) + 2))) => ?_)
        · exfalso
          omega
        · refine zp_load (pc := 37) hx hb (zd_X6_value (37, .aload_n 1, 1, 0, []) (List.mem_of_getElem? (i := 21) rfl)) rfl (j := 3) rfl ?_
          refine zp_getf (n := (cd : Int)) (pc := 38) hx hb hE hw (zd_X6_value (38, .getfield 86, 3, 0, []) (List.mem_of_getElem? (i := 22) rfl)) (j := 10) rfl rfl rfl qxt hm.2.1 ?_
          refine zp_load (pc := 41) hx hb (zd_X6_value (41, .iload 5, 2, 0, []) (List.mem_of_getElem? (i := 23) rfl)) rfl (j := 1) rfl ?_
          refine zp_ialdN (j := b) (v := 6) (N := N) (pc := 43) hx hb hw (zd_X6_value (43, .iaload, 1, 0, []) (List.mem_of_getElem? (i := 24) rfl)) (show zp_ia 1 41 = some (0, 0, 0, (-1000000), 1000000) from rfl) ⟨_, rfl, by decide⟩ hm.2.2.1 qcd (by omega) (by omega) ho1 (fun hk102 => ?_)
          have hk102b := zp_int hk102
          refine zp_store (L' := [(6, 0, 6), (4, 0, ((d : Int) + 2)), (5, 0, (b : Int)), (0, 2, (a : Int)), (1, 2, (xt9 : Int)), (2, 0, (i2 : Int)), (3, 2, (wd9 : Int))]) (pc := 44) hx hb hnL (zd_X6_value (44, .istore 6, 2, 0, []) (List.mem_of_getElem? (i := 25) rfl)) rfl rfl rfl ?_
          refine zp_load (pc := 46) hx hb (zd_X6_value (46, .aload_n 1, 1, 0, []) (List.mem_of_getElem? (i := 26) rfl)) rfl (j := 4) rfl ?_
          refine zp_getf (n := (cd : Int)) (pc := 47) hx hb hE hw (zd_X6_value (47, .getfield 86, 3, 0, []) (List.mem_of_getElem? (i := 27) rfl)) (j := 10) rfl rfl rfl qxt hm.2.1 ?_
          refine zp_load (pc := 50) hx hb (zd_X6_value (50, .iload 5, 2, 0, []) (List.mem_of_getElem? (i := 28) rfl)) rfl (j := 2) rfl ?_
          refine zp_const (pc := 52) hx hb (zd_X6_value (52, .iconst 1, 1, 0, []) (List.mem_of_getElem? (i := 29) rfl)) rfl rfl ?_
          refine zp_add (n := ((b : Int) + 1)) (pc := 53) hx hb (zd_X6_value (53, .iadd, 1, 0, []) (List.mem_of_getElem? (i := 30) rfl)) (by omega) (zp_r0 (by omega) (by omega)) ?_
          refine zp_ialdN (j := (b + 1)) (v := (C (b + 1))) (N := N) (pc := 54) hx hb hw (zd_X6_value (54, .iaload, 1, 0, []) (List.mem_of_getElem? (i := 31) rfl)) (show zp_ia 1 41 = some (0, 0, 0, (-1000000), 1000000) from rfl) ⟨_, rfl, by decide⟩ hm.2.2.1 qcd (by omega) (by omega) (hm.2.2.2.1 (b + 1)) (fun hk103 => ?_)
          have hk103b := zp_int hk103
          refine zp_store (L' := [(7, 0, (C (b + 1))), (6, 0, 6), (4, 0, ((d : Int) + 2)), (5, 0, (b : Int)), (0, 2, (a : Int)), (1, 2, (xt9 : Int)), (2, 0, (i2 : Int)), (3, 2, (wd9 : Int))]) (pc := 55) hx hb hnL (zd_X6_value (55, .istore 7, 2, 0, []) (List.mem_of_getElem? (i := 32) rfl)) rfl rfl rfl ?_
          refine zp_load (pc := 57) hx hb (zd_X6_value (57, .iload 6, 2, 0, []) (List.mem_of_getElem? (i := 33) rfl)) rfl (j := 1) rfl ?_
          refine zp_const (pc := 59) hx hb (zd_X6_value (59, .iconst 1, 1, 0, []) (List.mem_of_getElem? (i := 34) rfl)) rfl rfl ?_
          refine zp_icmp (pc := 60) (tgt := 69) hx hb (zd_X6_value (60, .if_icmp .eq 9, 3, 0, []) (List.mem_of_getElem? (i := 35) rfl)) rfl (fun (hc104 : 6 = 1) => ?_) (fun (hc104 : ¬ (6 = 1)) => ?_)
          · exfalso
            omega
          · refine zp_load (pc := 63) hx hb (zd_X6_value (63, .iload 6, 2, 0, []) (List.mem_of_getElem? (i := 36) rfl)) rfl (j := 1) rfl ?_
            refine zp_const (pc := 65) hx hb (zd_X6_value (65, .iconst 2, 1, 0, []) (List.mem_of_getElem? (i := 37) rfl)) rfl rfl ?_
            refine zp_icmp (pc := 66) (tgt := 123) hx hb (zd_X6_value (66, .if_icmp .ne 57, 3, 0, []) (List.mem_of_getElem? (i := 38) rfl)) rfl (fun (hc105 : ¬ 6 = 2) => ?_) (fun (hc105 : ¬ (¬ 6 = 2)) => ?_)
            · refine zp_load (pc := 123) hx hb (zd_X6_value (123, .iload 4, 2, 0, []) (List.mem_of_getElem? (i := 67) rfl)) rfl (j := 2) rfl ?_
              refine zp_const (pc := 125) hx hb (zd_X6_value (125, .iconst 1, 1, 0, []) (List.mem_of_getElem? (i := 68) rfl)) rfl rfl ?_
              refine zp_icmp (pc := 126) (tgt := 133) hx hb (zd_X6_value (126, .if_icmp .ge 7, 3, 0, []) (List.mem_of_getElem? (i := 69) rfl)) rfl (fun (hc106 : 1 ≤ ((d : Int) + 2)) => ?_) (fun (hc106 : ¬ (1 ≤ ((d : Int) + 2))) => ?_)
              · refine zp_load (pc := 133) hx hb (zd_X6_value (133, .aload_n 0, 1, 0, []) (List.mem_of_getElem? (i := 72) rfl)) rfl (j := 4) rfl ?_
                refine zp_getf (n := (st : Int)) (pc := 134) hx hb hE hw (zd_X6_value (134, .getfield 15, 3, 0, []) (List.mem_of_getElem? (i := 73) rfl)) (j := 5) rfl rfl rfl hp hm.1 ?_
                refine zp_load (pc := 137) hx hb (zd_X6_value (137, .iload 4, 2, 0, []) (List.mem_of_getElem? (i := 74) rfl)) rfl (j := 2) rfl ?_
                refine zp_const (pc := 139) hx hb (zd_X6_value (139, .iconst 1, 1, 0, []) (List.mem_of_getElem? (i := 75) rfl)) rfl rfl ?_
                refine zp_sub (n := ((d : Int) + 1)) (pc := 140) hx hb (zd_X6_value (140, .isub, 1, 0, []) (List.mem_of_getElem? (i := 76) rfl)) (by omega) (zp_r0 (by omega) (by omega)) ?_
                refine zp_lald (j := (d + 1)) (v := v2) (pc := 141) hx hb hw (zd_X6_value (141, .laload, 1, 0, []) (List.mem_of_getElem? (i := 77) rfl)) (show zp_ia 2 28 = some (64, 1, 0, (-9223372036854775808), 9223372036854775807) from rfl) qst (by omega) (by omega) e2 ?_
                refine zp_store (L' := [(8, 1, v2), (7, 0, (C (b + 1))), (6, 0, 6), (4, 0, ((d : Int) + 2)), (5, 0, (b : Int)), (0, 2, (a : Int)), (1, 2, (xt9 : Int)), (2, 0, (i2 : Int)), (3, 2, (wd9 : Int))]) (pc := 142) hx hb hnL (zd_X6_value (142, .lstore 8, 2, 0, []) (List.mem_of_getElem? (i := 78) rfl)) rfl rfl rfl ?_
                refine zp_load (pc := 144) hx hb (zd_X6_value (144, .iload 6, 2, 0, []) (List.mem_of_getElem? (i := 79) rfl)) rfl (j := 2) rfl ?_
                refine zp_if (pc := 146) (tgt := 152) hx hb (zd_X6_value (146, .ifCond .ne 6, 3, 0, []) (List.mem_of_getElem? (i := 80) rfl)) rfl (fun (hc108 : ¬ 6 = 0) => ?_) (fun (hc108 : ¬ (¬ 6 = 0)) => ?_)
                · refine zp_load (pc := 152) hx hb (zd_X6_value (152, .iload 6, 2, 0, []) (List.mem_of_getElem? (i := 83) rfl)) rfl (j := 2) rfl ?_
                  refine zp_const (pc := 154) hx hb (zd_X6_value (154, .iconst 3, 1, 0, []) (List.mem_of_getElem? (i := 84) rfl)) rfl rfl ?_
                  refine zp_icmp (pc := 155) (tgt := 174) hx hb (zd_X6_value (155, .if_icmp .ne 19, 3, 0, []) (List.mem_of_getElem? (i := 85) rfl)) rfl (fun (hc109 : ¬ 6 = 3) => ?_) (fun (hc109 : ¬ (¬ 6 = 3)) => ?_)
                  · refine zp_load (pc := 174) hx hb (zd_X6_value (174, .iload 6, 2, 0, []) (List.mem_of_getElem? (i := 96) rfl)) rfl (j := 2) rfl ?_
                    refine zp_const (pc := 176) hx hb (zd_X6_value (176, .iconst 4, 1, 0, []) (List.mem_of_getElem? (i := 97) rfl)) rfl rfl ?_
                    refine zp_icmp (pc := 177) (tgt := 186) hx hb (zd_X6_value (177, .if_icmp .eq 9, 3, 0, []) (List.mem_of_getElem? (i := 98) rfl)) rfl (fun (hc110 : 6 = 4) => ?_) (fun (hc110 : ¬ (6 = 4)) => ?_)
                    · exfalso
                      omega
                    · refine zp_load (pc := 180) hx hb (zd_X6_value (180, .iload 6, 2, 0, []) (List.mem_of_getElem? (i := 99) rfl)) rfl (j := 2) rfl ?_
                      refine zp_const (pc := 182) hx hb (zd_X6_value (182, .iconst 5, 1, 0, []) (List.mem_of_getElem? (i := 100) rfl)) rfl rfl ?_
                      refine zp_icmp (pc := 183) (tgt := 236) hx hb (zd_X6_value (183, .if_icmp .ne 53, 3, 0, []) (List.mem_of_getElem? (i := 101) rfl)) rfl (fun (hc111 : ¬ 6 = 5) => ?_) (fun (hc111 : ¬ (¬ 6 = 5)) => ?_)
                      · refine zp_load (pc := 236) hx hb (zd_X6_value (236, .iload 4, 2, 0, []) (List.mem_of_getElem? (i := 128) rfl)) rfl (j := 3) rfl ?_
                        refine zp_const (pc := 238) hx hb (zd_X6_value (238, .iconst 2, 1, 0, []) (List.mem_of_getElem? (i := 129) rfl)) rfl rfl ?_
                        refine zp_icmp (pc := 239) (tgt := 246) hx hb (zd_X6_value (239, .if_icmp .ge 7, 3, 0, []) (List.mem_of_getElem? (i := 130) rfl)) rfl (fun (hc112 : 2 ≤ ((d : Int) + 2)) => ?_) (fun (hc112 : ¬ (2 ≤ ((d : Int) + 2))) => ?_)
                        · refine zp_iinc (L' := [(4, 0, ((d : Int) + 1)), (8, 1, v2), (7, 0, (C (b + 1))), (6, 0, 6), (5, 0, (b : Int)), (0, 2, (a : Int)), (1, 2, (xt9 : Int)), (2, 0, (i2 : Int)), (3, 2, (wd9 : Int))]) (n := ((d : Int) + 1)) (pc := 246) hx hb hnL (zd_X6_value (246, .iinc 4 (-1), 3, 0, []) (List.mem_of_getElem? (i := 133) rfl)) (j := 3) rfl (by omega) (zp_r0 (by omega) (by omega)) rfl rfl ?_
                          refine zp_load (pc := 249) hx hb (zd_X6_value (249, .aload_n 0, 1, 0, []) (List.mem_of_getElem? (i := 134) rfl)) rfl (j := 5) rfl ?_
                          refine zp_getf (n := (st : Int)) (pc := 250) hx hb hE hw (zd_X6_value (250, .getfield 15, 3, 0, []) (List.mem_of_getElem? (i := 135) rfl)) (j := 5) rfl rfl rfl hp hm.1 ?_
                          refine zp_load (pc := 253) hx hb (zd_X6_value (253, .iload 4, 2, 0, []) (List.mem_of_getElem? (i := 136) rfl)) rfl (j := 0) rfl ?_
                          refine zp_const (pc := 255) hx hb (zd_X6_value (255, .iconst 1, 1, 0, []) (List.mem_of_getElem? (i := 137) rfl)) rfl rfl ?_
                          refine zp_sub (n := (d : Int)) (pc := 256) hx hb (zd_X6_value (256, .isub, 1, 0, []) (List.mem_of_getElem? (i := 138) rfl)) (by omega) (zp_r0 (by omega) (by omega)) ?_
                          refine zp_lald (j := d) (v := v1) (pc := 257) hx hb hw (zd_X6_value (257, .laload, 1, 0, []) (List.mem_of_getElem? (i := 139) rfl)) (show zp_ia 2 28 = some (64, 1, 0, (-9223372036854775808), 9223372036854775807) from rfl) qst (by omega) (by omega) e1 ?_
                          refine zp_store (L' := [(10, 1, v1), (4, 0, ((d : Int) + 1)), (8, 1, v2), (7, 0, (C (b + 1))), (6, 0, 6), (5, 0, (b : Int)), (0, 2, (a : Int)), (1, 2, (xt9 : Int)), (2, 0, (i2 : Int)), (3, 2, (wd9 : Int))]) (pc := 258) hx hb hnL (zd_X6_value (258, .lstore 10, 2, 0, []) (List.mem_of_getElem? (i := 140) rfl)) rfl rfl rfl ?_
                          refine zp_load (pc := 260) hx hb (zd_X6_value (260, .iload 6, 2, 0, []) (List.mem_of_getElem? (i := 141) rfl)) rfl (j := 4) rfl ?_
                          refine zp_tin (tgt := 304) (off := 42) (pc := 262) hx hb (zd_X6_value (262, .tableswitch 154 6 12 #[42, 52, 62, 72, 95, 118, 136], 42, 0, []) (List.mem_of_getElem? (i := 142) rfl)) (by decide) (by decide) (by decide) rfl ?_
                          refine zp_load (pc := 304) hx hb (zd_X6_value (304, .lload 10, 2, 0, []) (List.mem_of_getElem? (i := 143) rfl)) rfl (j := 0) rfl ?_
                          refine zp_load (pc := 306) hx hb (zd_X6_value (306, .lload 8, 2, 0, []) (List.mem_of_getElem? (i := 144) rfl)) rfl (j := 2) rfl ?_
                          refine zp_laddx (n := (v1 + v2)) (pc := 308) hx hb (zd_X6_value (308, .ladd, 1, 0, []) (List.mem_of_getElem? (i := 145) rfl)) rfl (zp_r1 (by omega) (by omega)) ?_
                          refine zp_store (L' := [(12, 1, (v1 + v2)), (10, 1, v1), (4, 0, ((d : Int) + 1)), (8, 1, v2), (7, 0, (C (b + 1))), (6, 0, 6), (5, 0, (b : Int)), (0, 2, (a : Int)), (1, 2, (xt9 : Int)), (2, 0, (i2 : Int)), (3, 2, (wd9 : Int))]) (pc := 309) hx hb hnL (zd_X6_value (309, .lstore 12, 2, 0, []) (List.mem_of_getElem? (i := 146) rfl)) rfl rfl rfl ?_
                          refine zp_goto (tgt := 431) (pc := 311) hx hb (zd_X6_value (311, .goto 120, 3, 0, []) (List.mem_of_getElem? (i := 147) rfl)) rfl ?_
                          refine zp_load (pc := 431) hx hb (zd_X6_value (431, .lload 12, 2, 0, []) (List.mem_of_getElem? (i := 206) rfl)) rfl (j := 0) rfl ?_
                          refine zp_ldc2 (pc := 433) hx hb hE (zd_X6_value (433, .ldc2_w 89, 3, 0, []) (List.mem_of_getElem? (i := 207) rfl)) (j := 13) rfl ?_
                          refine zp_lcmp (pc := 436) (tgt := 449) hx hb (zd_X6_value (436, .lcmp, 1, 0, []) (List.mem_of_getElem? (i := 208) rfl)) (zd_X6_value (437, .ifCond .gt 12, 3, 0, []) (List.mem_of_getElem? (i := 209) rfl)) rfl (fun (hc114 : 1000000000 < (v1 + v2)) => ?_) (fun (hc114 : ¬ (1000000000 < (v1 + v2))) => ?_)
                          · refine zp_ldc2 (pc := 449) hx hb hE (zd_X6_value (449, .ldc2_w 53, 3, 0, []) (List.mem_of_getElem? (i := 214) rfl)) (j := 12) rfl ?_
                            have hz : x en = none := kb (zg_bnn (fun h => absurd h.1 (by decide)) (show (v1 + v2) = yd_v 20 v1 v2 from rfl) (by omega))
                            refine zp_lret (pc := 452) (n := (-9000000000)) hx hb hE hQ hU5 rfl (by decide) (zd_X6_value (452, .lreturn, 1, 0, []) (List.mem_of_getElem? (i := 215) rfl)) (j := 0) rfl (zp_o1 (by first | assumption | exact zp_r1 (by omega) (by omega))) ?_
                            rw [hps]
                            exact ⟨rfl, fun v hv => (by rw [hz] at hv; cases hv), fun _ => rfl⟩
                          · refine zp_load (pc := 440) hx hb (zd_X6_value (440, .lload 12, 2, 0, []) (List.mem_of_getElem? (i := 210) rfl)) rfl (j := 0) rfl ?_
                            refine zp_ldc2 (pc := 442) hx hb hE (zd_X6_value (442, .ldc2_w 91, 3, 0, []) (List.mem_of_getElem? (i := 211) rfl)) (j := 14) rfl ?_
                            refine zp_lcmp (pc := 445) (tgt := 453) hx hb (zd_X6_value (445, .lcmp, 1, 0, []) (List.mem_of_getElem? (i := 212) rfl)) (zd_X6_value (446, .ifCond .ge 7, 3, 0, []) (List.mem_of_getElem? (i := 213) rfl)) rfl (fun (hc115 : (-1000000000) ≤ (v1 + v2)) => ?_) (fun (hc115 : ¬ ((-1000000000) ≤ (v1 + v2))) => ?_)
                            · refine zp_load (pc := 453) hx hb (zd_X6_value (453, .aload_n 0, 1, 0, []) (List.mem_of_getElem? (i := 216) rfl)) rfl (j := 7) rfl ?_
                              refine zp_getf (n := (st : Int)) (pc := 454) hx hb hE hw (zd_X6_value (454, .getfield 15, 3, 0, []) (List.mem_of_getElem? (i := 217) rfl)) (j := 5) rfl rfl rfl hp hm.1 ?_
                              refine zp_load (pc := 457) hx hb (zd_X6_value (457, .iload 4, 2, 0, []) (List.mem_of_getElem? (i := 218) rfl)) rfl (j := 2) rfl ?_
                              refine zp_const (pc := 459) hx hb (zd_X6_value (459, .iconst 1, 1, 0, []) (List.mem_of_getElem? (i := 219) rfl)) rfl rfl ?_
                              refine zp_sub (n := (d : Int)) (pc := 460) hx hb (zd_X6_value (460, .isub, 1, 0, []) (List.mem_of_getElem? (i := 220) rfl)) (by omega) (zp_r0 (by omega) (by omega)) ?_
                              refine zp_load (pc := 461) hx hb (zd_X6_value (461, .lload 12, 2, 0, []) (List.mem_of_getElem? (i := 221) rfl)) rfl (j := 0) rfl ?_
                              refine zp_last (j := d) (pc := 463) hx hb hw heff (zd_X6_value (463, .lastore, 1, 0, []) (List.mem_of_getElem? (i := 222) rfl)) (show zp_ia 2 28 = some (64, 1, 0, (-9223372036854775808), 9223372036854775807) from rfl) qst (by omega) (by omega) rfl ?_
                              refine zp_iinc (L' := [(5, 0, ((b : Int) + 2)), (12, 1, (v1 + v2)), (10, 1, v1), (4, 0, ((d : Int) + 1)), (8, 1, v2), (7, 0, (C (b + 1))), (6, 0, 6), (0, 2, (a : Int)), (1, 2, (xt9 : Int)), (2, 0, (i2 : Int)), (3, 2, (wd9 : Int))]) (n := ((b : Int) + 2)) (pc := 464) hx hb hnL (zd_X6_value (464, .iinc 5 2, 3, 0, []) (List.mem_of_getElem? (i := 223) rfl)) (j := 6) rfl (by omega) (zp_r0 (by omega) (by omega)) rfl rfl ?_
                              refine zp_goto (tgt := 13) (pc := 467) hx hb (zd_X6_value (467, .goto (-454), 3, 0, []) (List.mem_of_getElem? (i := 224) rfl)) rfl ?_
                              refine zp_drop (L' := [(4, 0, ((d : Int) + 1)), (5, 0, ((b : Int) + 2)), (0, 2, (a : Int)), (1, 2, (xt9 : Int)), (2, 0, (i2 : Int)), (3, 2, (wd9 : Int))]) (by simp) ?_
                              exact kk (v1 + v2) _ (zg_bns (fun h => absurd h.1 (by decide)) (show (v1 + v2) = yd_v 20 v1 v2 from rfl) (by omega) (by omega)) (zgV_s hm n1 n2 n3 n4) (fun j hj => zp_set_ne (Or.inr (by omega))) zp_set_self
                            · refine zp_ldc2 (pc := 449) hx hb hE (zd_X6_value (449, .ldc2_w 53, 3, 0, []) (List.mem_of_getElem? (i := 214) rfl)) (j := 12) rfl ?_
                              have hz : x en = none := kb (zg_bnn (fun h => absurd h.1 (by decide)) (show (v1 + v2) = yd_v 20 v1 v2 from rfl) (by omega))
                              refine zp_lret (pc := 452) (n := (-9000000000)) hx hb hE hQ hU5 rfl (by decide) (zd_X6_value (452, .lreturn, 1, 0, []) (List.mem_of_getElem? (i := 215) rfl)) (j := 0) rfl (zp_o1 (by first | assumption | exact zp_r1 (by omega) (by omega))) ?_
                              rw [hps]
                              exact ⟨rfl, fun v hv => (by rw [hz] at hv; cases hv), fun _ => rfl⟩
                        · exfalso
                          omega
                      · exfalso
                        omega
                  · exfalso
                    omega
                · exfalso
                  omega
              · exfalso
                omega
            · exfalso
              omega
  have step_7 : ∀ (b d : Nat) (v1 v2 : Int) (G : Nat → Nat → Int), b < e9 → d + 2 < 64 → zgV a xt9 cd st wd9 N C Wd G → C b = 7 → G st (2000 + d) = v1 → G st (2000 + (d + 1)) = v2 → -2147483648 ≤ v1 ∧ v1 ≤ 2147483648 → -2147483648 ≤ v2 ∧ v2 ≤ 2147483648 → (∀ (v : Int) (G' : Nat → Nat → Int), yd_bn 21 v1 v2 = some v → zgV a xt9 cd st wd9 N C Wd G' → (∀ j, j < d → G' st (2000 + j) = G st (2000 + j)) → G' st (2000 + d) = v → zp_J p l e R s m args below meth c Q w u [] 13 [(4, 0, ((d + 1 : Nat) : Int)), (5, 0, ((b + 2 : Nat) : Int)), (0, 2, (a : Int)), (1, 2, (xt9 : Int)), (2, 0, (i2 : Int)), (3, 2, (wd9 : Int))] [] u.1 G') → (yd_bn 21 v1 v2 = none → x en = none) → zp_J p l e R s m args below meth c Q w u [] 13 [(4, 0, ((d + 2 : Nat) : Int)), (5, 0, ((b : Nat) : Int)), (0, 2, (a : Int)), (1, 2, (xt9 : Int)), (2, 0, (i2 : Int)), (3, 2, (wd9 : Int))] [] u.1 G := by
    clear step_l1 step_l2 exitv step_nt step_b4 step_b5 step_6
    intro b d v1 v2 G hb2 hd hm o1 e1 e2 bd1 bd2 kk kb
    have ho1 : G cd (2000 + b) = 7 := (hm.2.2.2.1 b).trans o1
    refine zp_drop (L' := [(4, 0, ((d : Int) + 2)), (5, 0, (b : Int)), (0, 2, (a : Int)), (1, 2, (xt9 : Int)), (2, 0, (i2 : Int)), (3, 2, (wd9 : Int))]) (by simp <;> omega) ?_
    have h99 : zk_rg 1 (-9000000000) := ⟨by decide, by decide⟩
    have hl13 := hm.2.2.1
    refine zp_load (pc := 13) hx hb (zd_X6_value (13, .iload 5, 2, 0, []) (List.mem_of_getElem? (i := 9) rfl)) rfl (j := 1) rfl ?_
    refine zp_if (pc := 15) (tgt := 470) hx hb (zd_X6_value (15, .ifCond .lt 455, 3, 0, []) (List.mem_of_getElem? (i := 10) rfl)) rfl (fun (hc116 : (b : Int) < 0) => ?_) (fun (hc116 : ¬ ((b : Int) < 0)) => ?_)
    · exfalso
      omega
    · refine zp_load (pc := 18) hx hb (zd_X6_value (18, .iload 5, 2, 0, []) (List.mem_of_getElem? (i := 11) rfl)) rfl (j := 1) rfl ?_
      refine zp_const (pc := 20) hx hb (zd_X6_value (20, .iconst 1, 1, 0, []) (List.mem_of_getElem? (i := 12) rfl)) rfl rfl ?_
      refine zp_add (n := ((b : Int) + 1)) (pc := 21) hx hb (zd_X6_value (21, .iadd, 1, 0, []) (List.mem_of_getElem? (i := 13) rfl)) (by omega) (zp_r0 (by omega) (by omega)) ?_
      refine zp_load (pc := 22) hx hb (zd_X6_value (22, .aload_n 1, 1, 0, []) (List.mem_of_getElem? (i := 14) rfl)) rfl (j := 3) rfl ?_
      refine zp_getf (n := (cd : Int)) (pc := 23) hx hb hE hw (zd_X6_value (23, .getfield 86, 3, 0, []) (List.mem_of_getElem? (i := 15) rfl)) (j := 10) rfl rfl rfl qxt hm.2.1 ?_
      refine zp_alenN (N := N) (pc := 26) hx hb hw (zd_X6_value (26, .arraylength, 1, 0, []) (List.mem_of_getElem? (i := 16) rfl)) qcd ⟨_, rfl, by decide, by decide⟩ hm.2.2.1 ?_
      refine zp_icmp (pc := 27) (tgt := 470) hx hb (zd_X6_value (27, .if_icmp .ge 443, 3, 0, []) (List.mem_of_getElem? (i := 17) rfl)) rfl (fun (hc117 : (N : Int) ≤ ((b : Int) + 1)) => ?_) (fun (hc117 : ¬ ((N : Int) ≤ ((b : Int) + 1))) => ?_)
      · exfalso
        omega
      · refine zp_load (pc := 30) hx hb (zd_X6_value (30, .iload 4, 2, 0, []) (List.mem_of_getElem? (i := 18) rfl)) rfl (j := 0) rfl ?_
        refine zp_const (pc := 32) hx hb (zd_X6_value (32, .bipush 64, 2, 0, []) (List.mem_of_getElem? (i := 19) rfl)) rfl rfl ?_
        refine zp_icmp (pc := 34) (tgt := 470) hx hb (zd_X6_value (34, .if_icmp .ge 436, 3, 0, []) (List.mem_of_getElem? (i := 20) rfl)) rfl (fun (hc118 : 64 ≤ ((d : Int) + 2)) => ?_) (fun (hc118 : ¬ (64 ≤ ((d : Int) + 2))) => ?_)
        · exfalso
          omega
        · refine zp_load (pc := 37) hx hb (zd_X6_value (37, .aload_n 1, 1, 0, []) (List.mem_of_getElem? (i := 21) rfl)) rfl (j := 3) rfl ?_
          refine zp_getf (n := (cd : Int)) (pc := 38) hx hb hE hw (zd_X6_value (38, .getfield 86, 3, 0, []) (List.mem_of_getElem? (i := 22) rfl)) (j := 10) rfl rfl rfl qxt hm.2.1 ?_
          refine zp_load (pc := 41) hx hb (zd_X6_value (41, .iload 5, 2, 0, []) (List.mem_of_getElem? (i := 23) rfl)) rfl (j := 1) rfl ?_
          refine zp_ialdN (j := b) (v := 7) (N := N) (pc := 43) hx hb hw (zd_X6_value (43, .iaload, 1, 0, []) (List.mem_of_getElem? (i := 24) rfl)) (show zp_ia 1 41 = some (0, 0, 0, (-1000000), 1000000) from rfl) ⟨_, rfl, by decide⟩ hm.2.2.1 qcd (by omega) (by omega) ho1 (fun hk119 => ?_)
          have hk119b := zp_int hk119
          refine zp_store (L' := [(6, 0, 7), (4, 0, ((d : Int) + 2)), (5, 0, (b : Int)), (0, 2, (a : Int)), (1, 2, (xt9 : Int)), (2, 0, (i2 : Int)), (3, 2, (wd9 : Int))]) (pc := 44) hx hb hnL (zd_X6_value (44, .istore 6, 2, 0, []) (List.mem_of_getElem? (i := 25) rfl)) rfl rfl rfl ?_
          refine zp_load (pc := 46) hx hb (zd_X6_value (46, .aload_n 1, 1, 0, []) (List.mem_of_getElem? (i := 26) rfl)) rfl (j := 4) rfl ?_
          refine zp_getf (n := (cd : Int)) (pc := 47) hx hb hE hw (zd_X6_value (47, .getfield 86, 3, 0, []) (List.mem_of_getElem? (i := 27) rfl)) (j := 10) rfl rfl rfl qxt hm.2.1 ?_
          refine zp_load (pc := 50) hx hb (zd_X6_value (50, .iload 5, 2, 0, []) (List.mem_of_getElem? (i := 28) rfl)) rfl (j := 2) rfl ?_
          refine zp_const (pc := 52) hx hb (zd_X6_value (52, .iconst 1, 1, 0, []) (List.mem_of_getElem? (i := 29) rfl)) rfl rfl ?_
          refine zp_add (n := ((b : Int) + 1)) (pc := 53) hx hb (zd_X6_value (53, .iadd, 1, 0, []) (List.mem_of_getElem? (i := 30) rfl)) (by omega) (zp_r0 (by omega) (by omega)) ?_
          refine zp_ialdN (j := (b + 1)) (v := (C (b + 1))) (N := N) (pc := 54) hx hb hw (zd_X6_value (54, .iaload, 1, 0, []) (List.mem_of_getElem? (i := 31) rfl)) (show zp_ia 1 41 = some (0, 0, 0, (-1000000), 1000000) from rfl) ⟨_, rfl, by decide⟩ hm.2.2.1 qcd (by omega) (by omega) (hm.2.2.2.1 (b + 1)) (fun hk120 => ?_)
          have hk120b := zp_int hk120
          refine zp_store (L' := [(7, 0, (C (b + 1))), (6, 0, 7), (4, 0, ((d : Int) + 2)), (5, 0, (b : Int)), (0, 2, (a : Int)), (1, 2, (xt9 : Int)), (2, 0, (i2 : Int)), (3, 2, (wd9 : Int))]) (pc := 55) hx hb hnL (zd_X6_value (55, .istore 7, 2, 0, []) (List.mem_of_getElem? (i := 32) rfl)) rfl rfl rfl ?_
          refine zp_load (pc := 57) hx hb (zd_X6_value (57, .iload 6, 2, 0, []) (List.mem_of_getElem? (i := 33) rfl)) rfl (j := 1) rfl ?_
          refine zp_const (pc := 59) hx hb (zd_X6_value (59, .iconst 1, 1, 0, []) (List.mem_of_getElem? (i := 34) rfl)) rfl rfl ?_
          refine zp_icmp (pc := 60) (tgt := 69) hx hb (zd_X6_value (60, .if_icmp .eq 9, 3, 0, []) (List.mem_of_getElem? (i := 35) rfl)) rfl (fun (hc121 : 7 = 1) => ?_) (fun (hc121 : ¬ (7 = 1)) => ?_)
          · exfalso
            omega
          · refine zp_load (pc := 63) hx hb (zd_X6_value (63, .iload 6, 2, 0, []) (List.mem_of_getElem? (i := 36) rfl)) rfl (j := 1) rfl ?_
            refine zp_const (pc := 65) hx hb (zd_X6_value (65, .iconst 2, 1, 0, []) (List.mem_of_getElem? (i := 37) rfl)) rfl rfl ?_
            refine zp_icmp (pc := 66) (tgt := 123) hx hb (zd_X6_value (66, .if_icmp .ne 57, 3, 0, []) (List.mem_of_getElem? (i := 38) rfl)) rfl (fun (hc122 : ¬ 7 = 2) => ?_) (fun (hc122 : ¬ (¬ 7 = 2)) => ?_)
            · refine zp_load (pc := 123) hx hb (zd_X6_value (123, .iload 4, 2, 0, []) (List.mem_of_getElem? (i := 67) rfl)) rfl (j := 2) rfl ?_
              refine zp_const (pc := 125) hx hb (zd_X6_value (125, .iconst 1, 1, 0, []) (List.mem_of_getElem? (i := 68) rfl)) rfl rfl ?_
              refine zp_icmp (pc := 126) (tgt := 133) hx hb (zd_X6_value (126, .if_icmp .ge 7, 3, 0, []) (List.mem_of_getElem? (i := 69) rfl)) rfl (fun (hc123 : 1 ≤ ((d : Int) + 2)) => ?_) (fun (hc123 : ¬ (1 ≤ ((d : Int) + 2))) => ?_)
              · refine zp_load (pc := 133) hx hb (zd_X6_value (133, .aload_n 0, 1, 0, []) (List.mem_of_getElem? (i := 72) rfl)) rfl (j := 4) rfl ?_
                refine zp_getf (n := (st : Int)) (pc := 134) hx hb hE hw (zd_X6_value (134, .getfield 15, 3, 0, []) (List.mem_of_getElem? (i := 73) rfl)) (j := 5) rfl rfl rfl hp hm.1 ?_
                refine zp_load (pc := 137) hx hb (zd_X6_value (137, .iload 4, 2, 0, []) (List.mem_of_getElem? (i := 74) rfl)) rfl (j := 2) rfl ?_
                refine zp_const (pc := 139) hx hb (zd_X6_value (139, .iconst 1, 1, 0, []) (List.mem_of_getElem? (i := 75) rfl)) rfl rfl ?_
                refine zp_sub (n := ((d : Int) + 1)) (pc := 140) hx hb (zd_X6_value (140, .isub, 1, 0, []) (List.mem_of_getElem? (i := 76) rfl)) (by omega) (zp_r0 (by omega) (by omega)) ?_
                refine zp_lald (j := (d + 1)) (v := v2) (pc := 141) hx hb hw (zd_X6_value (141, .laload, 1, 0, []) (List.mem_of_getElem? (i := 77) rfl)) (show zp_ia 2 28 = some (64, 1, 0, (-9223372036854775808), 9223372036854775807) from rfl) qst (by omega) (by omega) e2 ?_
                refine zp_store (L' := [(8, 1, v2), (7, 0, (C (b + 1))), (6, 0, 7), (4, 0, ((d : Int) + 2)), (5, 0, (b : Int)), (0, 2, (a : Int)), (1, 2, (xt9 : Int)), (2, 0, (i2 : Int)), (3, 2, (wd9 : Int))]) (pc := 142) hx hb hnL (zd_X6_value (142, .lstore 8, 2, 0, []) (List.mem_of_getElem? (i := 78) rfl)) rfl rfl rfl ?_
                refine zp_load (pc := 144) hx hb (zd_X6_value (144, .iload 6, 2, 0, []) (List.mem_of_getElem? (i := 79) rfl)) rfl (j := 2) rfl ?_
                refine zp_if (pc := 146) (tgt := 152) hx hb (zd_X6_value (146, .ifCond .ne 6, 3, 0, []) (List.mem_of_getElem? (i := 80) rfl)) rfl (fun (hc125 : ¬ 7 = 0) => ?_) (fun (hc125 : ¬ (¬ 7 = 0)) => ?_)
                · refine zp_load (pc := 152) hx hb (zd_X6_value (152, .iload 6, 2, 0, []) (List.mem_of_getElem? (i := 83) rfl)) rfl (j := 2) rfl ?_
                  refine zp_const (pc := 154) hx hb (zd_X6_value (154, .iconst 3, 1, 0, []) (List.mem_of_getElem? (i := 84) rfl)) rfl rfl ?_
                  refine zp_icmp (pc := 155) (tgt := 174) hx hb (zd_X6_value (155, .if_icmp .ne 19, 3, 0, []) (List.mem_of_getElem? (i := 85) rfl)) rfl (fun (hc126 : ¬ 7 = 3) => ?_) (fun (hc126 : ¬ (¬ 7 = 3)) => ?_)
                  · refine zp_load (pc := 174) hx hb (zd_X6_value (174, .iload 6, 2, 0, []) (List.mem_of_getElem? (i := 96) rfl)) rfl (j := 2) rfl ?_
                    refine zp_const (pc := 176) hx hb (zd_X6_value (176, .iconst 4, 1, 0, []) (List.mem_of_getElem? (i := 97) rfl)) rfl rfl ?_
                    refine zp_icmp (pc := 177) (tgt := 186) hx hb (zd_X6_value (177, .if_icmp .eq 9, 3, 0, []) (List.mem_of_getElem? (i := 98) rfl)) rfl (fun (hc127 : 7 = 4) => ?_) (fun (hc127 : ¬ (7 = 4)) => ?_)
                    · exfalso
                      omega
                    · refine zp_load (pc := 180) hx hb (zd_X6_value (180, .iload 6, 2, 0, []) (List.mem_of_getElem? (i := 99) rfl)) rfl (j := 2) rfl ?_
                      refine zp_const (pc := 182) hx hb (zd_X6_value (182, .iconst 5, 1, 0, []) (List.mem_of_getElem? (i := 100) rfl)) rfl rfl ?_
                      refine zp_icmp (pc := 183) (tgt := 236) hx hb (zd_X6_value (183, .if_icmp .ne 53, 3, 0, []) (List.mem_of_getElem? (i := 101) rfl)) rfl (fun (hc128 : ¬ 7 = 5) => ?_) (fun (hc128 : ¬ (¬ 7 = 5)) => ?_)
                      · refine zp_load (pc := 236) hx hb (zd_X6_value (236, .iload 4, 2, 0, []) (List.mem_of_getElem? (i := 128) rfl)) rfl (j := 3) rfl ?_
                        refine zp_const (pc := 238) hx hb (zd_X6_value (238, .iconst 2, 1, 0, []) (List.mem_of_getElem? (i := 129) rfl)) rfl rfl ?_
                        refine zp_icmp (pc := 239) (tgt := 246) hx hb (zd_X6_value (239, .if_icmp .ge 7, 3, 0, []) (List.mem_of_getElem? (i := 130) rfl)) rfl (fun (hc129 : 2 ≤ ((d : Int) + 2)) => ?_) (fun (hc129 : ¬ (2 ≤ ((d : Int) + 2))) => ?_)
                        · refine zp_iinc (L' := [(4, 0, ((d : Int) + 1)), (8, 1, v2), (7, 0, (C (b + 1))), (6, 0, 7), (5, 0, (b : Int)), (0, 2, (a : Int)), (1, 2, (xt9 : Int)), (2, 0, (i2 : Int)), (3, 2, (wd9 : Int))]) (n := ((d : Int) + 1)) (pc := 246) hx hb hnL (zd_X6_value (246, .iinc 4 (-1), 3, 0, []) (List.mem_of_getElem? (i := 133) rfl)) (j := 3) rfl (by omega) (zp_r0 (by omega) (by omega)) rfl rfl ?_
                          refine zp_load (pc := 249) hx hb (zd_X6_value (249, .aload_n 0, 1, 0, []) (List.mem_of_getElem? (i := 134) rfl)) rfl (j := 5) rfl ?_
                          refine zp_getf (n := (st : Int)) (pc := 250) hx hb hE hw (zd_X6_value (250, .getfield 15, 3, 0, []) (List.mem_of_getElem? (i := 135) rfl)) (j := 5) rfl rfl rfl hp hm.1 ?_
                          refine zp_load (pc := 253) hx hb (zd_X6_value (253, .iload 4, 2, 0, []) (List.mem_of_getElem? (i := 136) rfl)) rfl (j := 0) rfl ?_
                          refine zp_const (pc := 255) hx hb (zd_X6_value (255, .iconst 1, 1, 0, []) (List.mem_of_getElem? (i := 137) rfl)) rfl rfl ?_
                          refine zp_sub (n := (d : Int)) (pc := 256) hx hb (zd_X6_value (256, .isub, 1, 0, []) (List.mem_of_getElem? (i := 138) rfl)) (by omega) (zp_r0 (by omega) (by omega)) ?_
                          refine zp_lald (j := d) (v := v1) (pc := 257) hx hb hw (zd_X6_value (257, .laload, 1, 0, []) (List.mem_of_getElem? (i := 139) rfl)) (show zp_ia 2 28 = some (64, 1, 0, (-9223372036854775808), 9223372036854775807) from rfl) qst (by omega) (by omega) e1 ?_
                          refine zp_store (L' := [(10, 1, v1), (4, 0, ((d : Int) + 1)), (8, 1, v2), (7, 0, (C (b + 1))), (6, 0, 7), (5, 0, (b : Int)), (0, 2, (a : Int)), (1, 2, (xt9 : Int)), (2, 0, (i2 : Int)), (3, 2, (wd9 : Int))]) (pc := 258) hx hb hnL (zd_X6_value (258, .lstore 10, 2, 0, []) (List.mem_of_getElem? (i := 140) rfl)) rfl rfl rfl ?_
                          refine zp_load (pc := 260) hx hb (zd_X6_value (260, .iload 6, 2, 0, []) (List.mem_of_getElem? (i := 141) rfl)) rfl (j := 4) rfl ?_
                          refine zp_tin (tgt := 314) (off := 52) (pc := 262) hx hb (zd_X6_value (262, .tableswitch 154 6 12 #[42, 52, 62, 72, 95, 118, 136], 42, 0, []) (List.mem_of_getElem? (i := 142) rfl)) (by decide) (by decide) (by decide) rfl ?_
                          refine zp_load (pc := 314) hx hb (zd_X6_value (314, .lload 10, 2, 0, []) (List.mem_of_getElem? (i := 148) rfl)) rfl (j := 0) rfl ?_
                          refine zp_load (pc := 316) hx hb (zd_X6_value (316, .lload 8, 2, 0, []) (List.mem_of_getElem? (i := 149) rfl)) rfl (j := 2) rfl ?_
                          refine zp_lsubx (n := (v1 - v2)) (pc := 318) hx hb (zd_X6_value (318, .lsub, 1, 0, []) (List.mem_of_getElem? (i := 150) rfl)) rfl (zp_r1 (by omega) (by omega)) ?_
                          refine zp_store (L' := [(12, 1, (v1 - v2)), (10, 1, v1), (4, 0, ((d : Int) + 1)), (8, 1, v2), (7, 0, (C (b + 1))), (6, 0, 7), (5, 0, (b : Int)), (0, 2, (a : Int)), (1, 2, (xt9 : Int)), (2, 0, (i2 : Int)), (3, 2, (wd9 : Int))]) (pc := 319) hx hb hnL (zd_X6_value (319, .lstore 12, 2, 0, []) (List.mem_of_getElem? (i := 151) rfl)) rfl rfl rfl ?_
                          refine zp_goto (tgt := 431) (pc := 321) hx hb (zd_X6_value (321, .goto 110, 3, 0, []) (List.mem_of_getElem? (i := 152) rfl)) rfl ?_
                          refine zp_load (pc := 431) hx hb (zd_X6_value (431, .lload 12, 2, 0, []) (List.mem_of_getElem? (i := 206) rfl)) rfl (j := 0) rfl ?_
                          refine zp_ldc2 (pc := 433) hx hb hE (zd_X6_value (433, .ldc2_w 89, 3, 0, []) (List.mem_of_getElem? (i := 207) rfl)) (j := 13) rfl ?_
                          refine zp_lcmp (pc := 436) (tgt := 449) hx hb (zd_X6_value (436, .lcmp, 1, 0, []) (List.mem_of_getElem? (i := 208) rfl)) (zd_X6_value (437, .ifCond .gt 12, 3, 0, []) (List.mem_of_getElem? (i := 209) rfl)) rfl (fun (hc131 : 1000000000 < (v1 - v2)) => ?_) (fun (hc131 : ¬ (1000000000 < (v1 - v2))) => ?_)
                          · refine zp_ldc2 (pc := 449) hx hb hE (zd_X6_value (449, .ldc2_w 53, 3, 0, []) (List.mem_of_getElem? (i := 214) rfl)) (j := 12) rfl ?_
                            have hz : x en = none := kb (zg_bnn (fun h => absurd h.1 (by decide)) (show (v1 - v2) = yd_v 21 v1 v2 from rfl) (by omega))
                            refine zp_lret (pc := 452) (n := (-9000000000)) hx hb hE hQ hU5 rfl (by decide) (zd_X6_value (452, .lreturn, 1, 0, []) (List.mem_of_getElem? (i := 215) rfl)) (j := 0) rfl (zp_o1 (by first | assumption | exact zp_r1 (by omega) (by omega))) ?_
                            rw [hps]
                            exact ⟨rfl, fun v hv => (by rw [hz] at hv; cases hv), fun _ => rfl⟩
                          · refine zp_load (pc := 440) hx hb (zd_X6_value (440, .lload 12, 2, 0, []) (List.mem_of_getElem? (i := 210) rfl)) rfl (j := 0) rfl ?_
                            refine zp_ldc2 (pc := 442) hx hb hE (zd_X6_value (442, .ldc2_w 91, 3, 0, []) (List.mem_of_getElem? (i := 211) rfl)) (j := 14) rfl ?_
                            refine zp_lcmp (pc := 445) (tgt := 453) hx hb (zd_X6_value (445, .lcmp, 1, 0, []) (List.mem_of_getElem? (i := 212) rfl)) (zd_X6_value (446, .ifCond .ge 7, 3, 0, []) (List.mem_of_getElem? (i := 213) rfl)) rfl (fun (hc132 : (-1000000000) ≤ (v1 - v2)) => ?_) (fun (hc132 : ¬ ((-1000000000) ≤ (v1 - v2))) => ?_)
                            · refine zp_load (pc := 453) hx hb (zd_X6_value (453, .aload_n 0, 1, 0, []) (List.mem_of_getElem? (i := 216) rfl)) rfl (j := 7) rfl ?_
                              refine zp_getf (n := (st : Int)) (pc := 454) hx hb hE hw (zd_X6_value (454, .getfield 15, 3, 0, []) (List.mem_of_getElem? (i := 217) rfl)) (j := 5) rfl rfl rfl hp hm.1 ?_
                              refine zp_load (pc := 457) hx hb (zd_X6_value (457, .iload 4, 2, 0, []) (List.mem_of_getElem? (i := 218) rfl)) rfl (j := 2) rfl ?_
                              refine zp_const (pc := 459) hx hb (zd_X6_value (459, .iconst 1, 1, 0, []) (List.mem_of_getElem? (i := 219) rfl)) rfl rfl ?_
                              refine zp_sub (n := (d : Int)) (pc := 460) hx hb (zd_X6_value (460, .isub, 1, 0, []) (List.mem_of_getElem? (i := 220) rfl)) (by omega) (zp_r0 (by omega) (by omega)) ?_
                              refine zp_load (pc := 461) hx hb (zd_X6_value (461, .lload 12, 2, 0, []) (List.mem_of_getElem? (i := 221) rfl)) rfl (j := 0) rfl ?_
                              refine zp_last (j := d) (pc := 463) hx hb hw heff (zd_X6_value (463, .lastore, 1, 0, []) (List.mem_of_getElem? (i := 222) rfl)) (show zp_ia 2 28 = some (64, 1, 0, (-9223372036854775808), 9223372036854775807) from rfl) qst (by omega) (by omega) rfl ?_
                              refine zp_iinc (L' := [(5, 0, ((b : Int) + 2)), (12, 1, (v1 - v2)), (10, 1, v1), (4, 0, ((d : Int) + 1)), (8, 1, v2), (7, 0, (C (b + 1))), (6, 0, 7), (0, 2, (a : Int)), (1, 2, (xt9 : Int)), (2, 0, (i2 : Int)), (3, 2, (wd9 : Int))]) (n := ((b : Int) + 2)) (pc := 464) hx hb hnL (zd_X6_value (464, .iinc 5 2, 3, 0, []) (List.mem_of_getElem? (i := 223) rfl)) (j := 6) rfl (by omega) (zp_r0 (by omega) (by omega)) rfl rfl ?_
                              refine zp_goto (tgt := 13) (pc := 467) hx hb (zd_X6_value (467, .goto (-454), 3, 0, []) (List.mem_of_getElem? (i := 224) rfl)) rfl ?_
                              refine zp_drop (L' := [(4, 0, ((d : Int) + 1)), (5, 0, ((b : Int) + 2)), (0, 2, (a : Int)), (1, 2, (xt9 : Int)), (2, 0, (i2 : Int)), (3, 2, (wd9 : Int))]) (by simp) ?_
                              exact kk (v1 - v2) _ (zg_bns (fun h => absurd h.1 (by decide)) (show (v1 - v2) = yd_v 21 v1 v2 from rfl) (by omega) (by omega)) (zgV_s hm n1 n2 n3 n4) (fun j hj => zp_set_ne (Or.inr (by omega))) zp_set_self
                            · refine zp_ldc2 (pc := 449) hx hb hE (zd_X6_value (449, .ldc2_w 53, 3, 0, []) (List.mem_of_getElem? (i := 214) rfl)) (j := 12) rfl ?_
                              have hz : x en = none := kb (zg_bnn (fun h => absurd h.1 (by decide)) (show (v1 - v2) = yd_v 21 v1 v2 from rfl) (by omega))
                              refine zp_lret (pc := 452) (n := (-9000000000)) hx hb hE hQ hU5 rfl (by decide) (zd_X6_value (452, .lreturn, 1, 0, []) (List.mem_of_getElem? (i := 215) rfl)) (j := 0) rfl (zp_o1 (by first | assumption | exact zp_r1 (by omega) (by omega))) ?_
                              rw [hps]
                              exact ⟨rfl, fun v hv => (by rw [hz] at hv; cases hv), fun _ => rfl⟩
                        · exfalso
                          omega
                      · exfalso
                        omega
                  · exfalso
                    omega
                · exfalso
                  omega
              · exfalso
                omega
            · exfalso
              omega
  have step_8 : ∀ (b d : Nat) (v1 v2 : Int) (G : Nat → Nat → Int), b < e9 → d + 2 < 64 → zgV a xt9 cd st wd9 N C Wd G → C b = 8 → G st (2000 + d) = v1 → G st (2000 + (d + 1)) = v2 → -2147483648 ≤ v1 ∧ v1 ≤ 2147483648 → -2147483648 ≤ v2 ∧ v2 ≤ 2147483648 → (∀ (v : Int) (G' : Nat → Nat → Int), yd_bn 22 v1 v2 = some v → zgV a xt9 cd st wd9 N C Wd G' → (∀ j, j < d → G' st (2000 + j) = G st (2000 + j)) → G' st (2000 + d) = v → zp_J p l e R s m args below meth c Q w u [] 13 [(4, 0, ((d + 1 : Nat) : Int)), (5, 0, ((b + 2 : Nat) : Int)), (0, 2, (a : Int)), (1, 2, (xt9 : Int)), (2, 0, (i2 : Int)), (3, 2, (wd9 : Int))] [] u.1 G') → (yd_bn 22 v1 v2 = none → x en = none) → zp_J p l e R s m args below meth c Q w u [] 13 [(4, 0, ((d + 2 : Nat) : Int)), (5, 0, ((b : Nat) : Int)), (0, 2, (a : Int)), (1, 2, (xt9 : Int)), (2, 0, (i2 : Int)), (3, 2, (wd9 : Int))] [] u.1 G := by
    clear step_l1 step_l2 exitv step_nt step_b4 step_b5 step_6 step_7
    intro b d v1 v2 G hb2 hd hm o1 e1 e2 bd1 bd2 kk kb
    have ho1 : G cd (2000 + b) = 8 := (hm.2.2.2.1 b).trans o1
    refine zp_drop (L' := [(4, 0, ((d : Int) + 2)), (5, 0, (b : Int)), (0, 2, (a : Int)), (1, 2, (xt9 : Int)), (2, 0, (i2 : Int)), (3, 2, (wd9 : Int))]) (by simp <;> omega) ?_
    have h99 : zk_rg 1 (-9000000000) := ⟨by decide, by decide⟩
    have hl13 := hm.2.2.1
    refine zp_load (pc := 13) hx hb (zd_X6_value (13, .iload 5, 2, 0, []) (List.mem_of_getElem? (i := 9) rfl)) rfl (j := 1) rfl ?_
    refine zp_if (pc := 15) (tgt := 470) hx hb (zd_X6_value (15, .ifCond .lt 455, 3, 0, []) (List.mem_of_getElem? (i := 10) rfl)) rfl (fun (hc133 : (b : Int) < 0) => ?_) (fun (hc133 : ¬ ((b : Int) < 0)) => ?_)
    · exfalso
      omega
    · refine zp_load (pc := 18) hx hb (zd_X6_value (18, .iload 5, 2, 0, []) (List.mem_of_getElem? (i := 11) rfl)) rfl (j := 1) rfl ?_
      refine zp_const (pc := 20) hx hb (zd_X6_value (20, .iconst 1, 1, 0, []) (List.mem_of_getElem? (i := 12) rfl)) rfl rfl ?_
      refine zp_add (n := ((b : Int) + 1)) (pc := 21) hx hb (zd_X6_value (21, .iadd, 1, 0, []) (List.mem_of_getElem? (i := 13) rfl)) (by omega) (zp_r0 (by omega) (by omega)) ?_
      refine zp_load (pc := 22) hx hb (zd_X6_value (22, .aload_n 1, 1, 0, []) (List.mem_of_getElem? (i := 14) rfl)) rfl (j := 3) rfl ?_
      refine zp_getf (n := (cd : Int)) (pc := 23) hx hb hE hw (zd_X6_value (23, .getfield 86, 3, 0, []) (List.mem_of_getElem? (i := 15) rfl)) (j := 10) rfl rfl rfl qxt hm.2.1 ?_
      refine zp_alenN (N := N) (pc := 26) hx hb hw (zd_X6_value (26, .arraylength, 1, 0, []) (List.mem_of_getElem? (i := 16) rfl)) qcd ⟨_, rfl, by decide, by decide⟩ hm.2.2.1 ?_
      refine zp_icmp (pc := 27) (tgt := 470) hx hb (zd_X6_value (27, .if_icmp .ge 443, 3, 0, []) (List.mem_of_getElem? (i := 17) rfl)) rfl (fun (hc134 : (N : Int) ≤ ((b : Int) + 1)) => ?_) (fun (hc134 : ¬ ((N : Int) ≤ ((b : Int) + 1))) => ?_)
      · exfalso
        omega
      · refine zp_load (pc := 30) hx hb (zd_X6_value (30, .iload 4, 2, 0, []) (List.mem_of_getElem? (i := 18) rfl)) rfl (j := 0) rfl ?_
        refine zp_const (pc := 32) hx hb (zd_X6_value (32, .bipush 64, 2, 0, []) (List.mem_of_getElem? (i := 19) rfl)) rfl rfl ?_
        refine zp_icmp (pc := 34) (tgt := 470) hx hb (zd_X6_value (34, .if_icmp .ge 436, 3, 0, []) (List.mem_of_getElem? (i := 20) rfl)) rfl (fun (hc135 : 64 ≤ ((d : Int) + 2)) => ?_) (fun (hc135 : ¬ (64 ≤ ((d : Int) + 2))) => ?_)
        · exfalso
          omega
        · refine zp_load (pc := 37) hx hb (zd_X6_value (37, .aload_n 1, 1, 0, []) (List.mem_of_getElem? (i := 21) rfl)) rfl (j := 3) rfl ?_
          refine zp_getf (n := (cd : Int)) (pc := 38) hx hb hE hw (zd_X6_value (38, .getfield 86, 3, 0, []) (List.mem_of_getElem? (i := 22) rfl)) (j := 10) rfl rfl rfl qxt hm.2.1 ?_
          refine zp_load (pc := 41) hx hb (zd_X6_value (41, .iload 5, 2, 0, []) (List.mem_of_getElem? (i := 23) rfl)) rfl (j := 1) rfl ?_
          refine zp_ialdN (j := b) (v := 8) (N := N) (pc := 43) hx hb hw (zd_X6_value (43, .iaload, 1, 0, []) (List.mem_of_getElem? (i := 24) rfl)) (show zp_ia 1 41 = some (0, 0, 0, (-1000000), 1000000) from rfl) ⟨_, rfl, by decide⟩ hm.2.2.1 qcd (by omega) (by omega) ho1 (fun hk136 => ?_)
          have hk136b := zp_int hk136
          refine zp_store (L' := [(6, 0, 8), (4, 0, ((d : Int) + 2)), (5, 0, (b : Int)), (0, 2, (a : Int)), (1, 2, (xt9 : Int)), (2, 0, (i2 : Int)), (3, 2, (wd9 : Int))]) (pc := 44) hx hb hnL (zd_X6_value (44, .istore 6, 2, 0, []) (List.mem_of_getElem? (i := 25) rfl)) rfl rfl rfl ?_
          refine zp_load (pc := 46) hx hb (zd_X6_value (46, .aload_n 1, 1, 0, []) (List.mem_of_getElem? (i := 26) rfl)) rfl (j := 4) rfl ?_
          refine zp_getf (n := (cd : Int)) (pc := 47) hx hb hE hw (zd_X6_value (47, .getfield 86, 3, 0, []) (List.mem_of_getElem? (i := 27) rfl)) (j := 10) rfl rfl rfl qxt hm.2.1 ?_
          refine zp_load (pc := 50) hx hb (zd_X6_value (50, .iload 5, 2, 0, []) (List.mem_of_getElem? (i := 28) rfl)) rfl (j := 2) rfl ?_
          refine zp_const (pc := 52) hx hb (zd_X6_value (52, .iconst 1, 1, 0, []) (List.mem_of_getElem? (i := 29) rfl)) rfl rfl ?_
          refine zp_add (n := ((b : Int) + 1)) (pc := 53) hx hb (zd_X6_value (53, .iadd, 1, 0, []) (List.mem_of_getElem? (i := 30) rfl)) (by omega) (zp_r0 (by omega) (by omega)) ?_
          refine zp_ialdN (j := (b + 1)) (v := (C (b + 1))) (N := N) (pc := 54) hx hb hw (zd_X6_value (54, .iaload, 1, 0, []) (List.mem_of_getElem? (i := 31) rfl)) (show zp_ia 1 41 = some (0, 0, 0, (-1000000), 1000000) from rfl) ⟨_, rfl, by decide⟩ hm.2.2.1 qcd (by omega) (by omega) (hm.2.2.2.1 (b + 1)) (fun hk137 => ?_)
          have hk137b := zp_int hk137
          refine zp_store (L' := [(7, 0, (C (b + 1))), (6, 0, 8), (4, 0, ((d : Int) + 2)), (5, 0, (b : Int)), (0, 2, (a : Int)), (1, 2, (xt9 : Int)), (2, 0, (i2 : Int)), (3, 2, (wd9 : Int))]) (pc := 55) hx hb hnL (zd_X6_value (55, .istore 7, 2, 0, []) (List.mem_of_getElem? (i := 32) rfl)) rfl rfl rfl ?_
          refine zp_load (pc := 57) hx hb (zd_X6_value (57, .iload 6, 2, 0, []) (List.mem_of_getElem? (i := 33) rfl)) rfl (j := 1) rfl ?_
          refine zp_const (pc := 59) hx hb (zd_X6_value (59, .iconst 1, 1, 0, []) (List.mem_of_getElem? (i := 34) rfl)) rfl rfl ?_
          refine zp_icmp (pc := 60) (tgt := 69) hx hb (zd_X6_value (60, .if_icmp .eq 9, 3, 0, []) (List.mem_of_getElem? (i := 35) rfl)) rfl (fun (hc138 : 8 = 1) => ?_) (fun (hc138 : ¬ (8 = 1)) => ?_)
          · exfalso
            omega
          · refine zp_load (pc := 63) hx hb (zd_X6_value (63, .iload 6, 2, 0, []) (List.mem_of_getElem? (i := 36) rfl)) rfl (j := 1) rfl ?_
            refine zp_const (pc := 65) hx hb (zd_X6_value (65, .iconst 2, 1, 0, []) (List.mem_of_getElem? (i := 37) rfl)) rfl rfl ?_
            refine zp_icmp (pc := 66) (tgt := 123) hx hb (zd_X6_value (66, .if_icmp .ne 57, 3, 0, []) (List.mem_of_getElem? (i := 38) rfl)) rfl (fun (hc139 : ¬ 8 = 2) => ?_) (fun (hc139 : ¬ (¬ 8 = 2)) => ?_)
            · refine zp_load (pc := 123) hx hb (zd_X6_value (123, .iload 4, 2, 0, []) (List.mem_of_getElem? (i := 67) rfl)) rfl (j := 2) rfl ?_
              refine zp_const (pc := 125) hx hb (zd_X6_value (125, .iconst 1, 1, 0, []) (List.mem_of_getElem? (i := 68) rfl)) rfl rfl ?_
              refine zp_icmp (pc := 126) (tgt := 133) hx hb (zd_X6_value (126, .if_icmp .ge 7, 3, 0, []) (List.mem_of_getElem? (i := 69) rfl)) rfl (fun (hc140 : 1 ≤ ((d : Int) + 2)) => ?_) (fun (hc140 : ¬ (1 ≤ ((d : Int) + 2))) => ?_)
              · refine zp_load (pc := 133) hx hb (zd_X6_value (133, .aload_n 0, 1, 0, []) (List.mem_of_getElem? (i := 72) rfl)) rfl (j := 4) rfl ?_
                refine zp_getf (n := (st : Int)) (pc := 134) hx hb hE hw (zd_X6_value (134, .getfield 15, 3, 0, []) (List.mem_of_getElem? (i := 73) rfl)) (j := 5) rfl rfl rfl hp hm.1 ?_
                refine zp_load (pc := 137) hx hb (zd_X6_value (137, .iload 4, 2, 0, []) (List.mem_of_getElem? (i := 74) rfl)) rfl (j := 2) rfl ?_
                refine zp_const (pc := 139) hx hb (zd_X6_value (139, .iconst 1, 1, 0, []) (List.mem_of_getElem? (i := 75) rfl)) rfl rfl ?_
                refine zp_sub (n := ((d : Int) + 1)) (pc := 140) hx hb (zd_X6_value (140, .isub, 1, 0, []) (List.mem_of_getElem? (i := 76) rfl)) (by omega) (zp_r0 (by omega) (by omega)) ?_
                refine zp_lald (j := (d + 1)) (v := v2) (pc := 141) hx hb hw (zd_X6_value (141, .laload, 1, 0, []) (List.mem_of_getElem? (i := 77) rfl)) (show zp_ia 2 28 = some (64, 1, 0, (-9223372036854775808), 9223372036854775807) from rfl) qst (by omega) (by omega) e2 ?_
                refine zp_store (L' := [(8, 1, v2), (7, 0, (C (b + 1))), (6, 0, 8), (4, 0, ((d : Int) + 2)), (5, 0, (b : Int)), (0, 2, (a : Int)), (1, 2, (xt9 : Int)), (2, 0, (i2 : Int)), (3, 2, (wd9 : Int))]) (pc := 142) hx hb hnL (zd_X6_value (142, .lstore 8, 2, 0, []) (List.mem_of_getElem? (i := 78) rfl)) rfl rfl rfl ?_
                refine zp_load (pc := 144) hx hb (zd_X6_value (144, .iload 6, 2, 0, []) (List.mem_of_getElem? (i := 79) rfl)) rfl (j := 2) rfl ?_
                refine zp_if (pc := 146) (tgt := 152) hx hb (zd_X6_value (146, .ifCond .ne 6, 3, 0, []) (List.mem_of_getElem? (i := 80) rfl)) rfl (fun (hc142 : ¬ 8 = 0) => ?_) (fun (hc142 : ¬ (¬ 8 = 0)) => ?_)
                · refine zp_load (pc := 152) hx hb (zd_X6_value (152, .iload 6, 2, 0, []) (List.mem_of_getElem? (i := 83) rfl)) rfl (j := 2) rfl ?_
                  refine zp_const (pc := 154) hx hb (zd_X6_value (154, .iconst 3, 1, 0, []) (List.mem_of_getElem? (i := 84) rfl)) rfl rfl ?_
                  refine zp_icmp (pc := 155) (tgt := 174) hx hb (zd_X6_value (155, .if_icmp .ne 19, 3, 0, []) (List.mem_of_getElem? (i := 85) rfl)) rfl (fun (hc143 : ¬ 8 = 3) => ?_) (fun (hc143 : ¬ (¬ 8 = 3)) => ?_)
                  · refine zp_load (pc := 174) hx hb (zd_X6_value (174, .iload 6, 2, 0, []) (List.mem_of_getElem? (i := 96) rfl)) rfl (j := 2) rfl ?_
                    refine zp_const (pc := 176) hx hb (zd_X6_value (176, .iconst 4, 1, 0, []) (List.mem_of_getElem? (i := 97) rfl)) rfl rfl ?_
                    refine zp_icmp (pc := 177) (tgt := 186) hx hb (zd_X6_value (177, .if_icmp .eq 9, 3, 0, []) (List.mem_of_getElem? (i := 98) rfl)) rfl (fun (hc144 : 8 = 4) => ?_) (fun (hc144 : ¬ (8 = 4)) => ?_)
                    · exfalso
                      omega
                    · refine zp_load (pc := 180) hx hb (zd_X6_value (180, .iload 6, 2, 0, []) (List.mem_of_getElem? (i := 99) rfl)) rfl (j := 2) rfl ?_
                      refine zp_const (pc := 182) hx hb (zd_X6_value (182, .iconst 5, 1, 0, []) (List.mem_of_getElem? (i := 100) rfl)) rfl rfl ?_
                      refine zp_icmp (pc := 183) (tgt := 236) hx hb (zd_X6_value (183, .if_icmp .ne 53, 3, 0, []) (List.mem_of_getElem? (i := 101) rfl)) rfl (fun (hc145 : ¬ 8 = 5) => ?_) (fun (hc145 : ¬ (¬ 8 = 5)) => ?_)
                      · refine zp_load (pc := 236) hx hb (zd_X6_value (236, .iload 4, 2, 0, []) (List.mem_of_getElem? (i := 128) rfl)) rfl (j := 3) rfl ?_
                        refine zp_const (pc := 238) hx hb (zd_X6_value (238, .iconst 2, 1, 0, []) (List.mem_of_getElem? (i := 129) rfl)) rfl rfl ?_
                        refine zp_icmp (pc := 239) (tgt := 246) hx hb (zd_X6_value (239, .if_icmp .ge 7, 3, 0, []) (List.mem_of_getElem? (i := 130) rfl)) rfl (fun (hc146 : 2 ≤ ((d : Int) + 2)) => ?_) (fun (hc146 : ¬ (2 ≤ ((d : Int) + 2))) => ?_)
                        · refine zp_iinc (L' := [(4, 0, ((d : Int) + 1)), (8, 1, v2), (7, 0, (C (b + 1))), (6, 0, 8), (5, 0, (b : Int)), (0, 2, (a : Int)), (1, 2, (xt9 : Int)), (2, 0, (i2 : Int)), (3, 2, (wd9 : Int))]) (n := ((d : Int) + 1)) (pc := 246) hx hb hnL (zd_X6_value (246, .iinc 4 (-1), 3, 0, []) (List.mem_of_getElem? (i := 133) rfl)) (j := 3) rfl (by omega) (zp_r0 (by omega) (by omega)) rfl rfl ?_
                          refine zp_load (pc := 249) hx hb (zd_X6_value (249, .aload_n 0, 1, 0, []) (List.mem_of_getElem? (i := 134) rfl)) rfl (j := 5) rfl ?_
                          refine zp_getf (n := (st : Int)) (pc := 250) hx hb hE hw (zd_X6_value (250, .getfield 15, 3, 0, []) (List.mem_of_getElem? (i := 135) rfl)) (j := 5) rfl rfl rfl hp hm.1 ?_
                          refine zp_load (pc := 253) hx hb (zd_X6_value (253, .iload 4, 2, 0, []) (List.mem_of_getElem? (i := 136) rfl)) rfl (j := 0) rfl ?_
                          refine zp_const (pc := 255) hx hb (zd_X6_value (255, .iconst 1, 1, 0, []) (List.mem_of_getElem? (i := 137) rfl)) rfl rfl ?_
                          refine zp_sub (n := (d : Int)) (pc := 256) hx hb (zd_X6_value (256, .isub, 1, 0, []) (List.mem_of_getElem? (i := 138) rfl)) (by omega) (zp_r0 (by omega) (by omega)) ?_
                          refine zp_lald (j := d) (v := v1) (pc := 257) hx hb hw (zd_X6_value (257, .laload, 1, 0, []) (List.mem_of_getElem? (i := 139) rfl)) (show zp_ia 2 28 = some (64, 1, 0, (-9223372036854775808), 9223372036854775807) from rfl) qst (by omega) (by omega) e1 ?_
                          refine zp_store (L' := [(10, 1, v1), (4, 0, ((d : Int) + 1)), (8, 1, v2), (7, 0, (C (b + 1))), (6, 0, 8), (5, 0, (b : Int)), (0, 2, (a : Int)), (1, 2, (xt9 : Int)), (2, 0, (i2 : Int)), (3, 2, (wd9 : Int))]) (pc := 258) hx hb hnL (zd_X6_value (258, .lstore 10, 2, 0, []) (List.mem_of_getElem? (i := 140) rfl)) rfl rfl rfl ?_
                          refine zp_load (pc := 260) hx hb (zd_X6_value (260, .iload 6, 2, 0, []) (List.mem_of_getElem? (i := 141) rfl)) rfl (j := 4) rfl ?_
                          refine zp_tin (tgt := 324) (off := 62) (pc := 262) hx hb (zd_X6_value (262, .tableswitch 154 6 12 #[42, 52, 62, 72, 95, 118, 136], 42, 0, []) (List.mem_of_getElem? (i := 142) rfl)) (by decide) (by decide) (by decide) rfl ?_
                          refine zp_load (pc := 324) hx hb (zd_X6_value (324, .lload 10, 2, 0, []) (List.mem_of_getElem? (i := 153) rfl)) rfl (j := 0) rfl ?_
                          refine zp_load (pc := 326) hx hb (zd_X6_value (326, .lload 8, 2, 0, []) (List.mem_of_getElem? (i := 154) rfl)) rfl (j := 2) rfl ?_
                          refine zp_lmulx (n := (v1 * v2)) (pc := 328) hx hb (zd_X6_value (328, .lmul, 1, 0, []) (List.mem_of_getElem? (i := 155) rfl)) rfl (zg_mulr bd1.1 bd1.2 bd2.1 bd2.2) ?_
                          refine zp_store (L' := [(12, 1, (v1 * v2)), (10, 1, v1), (4, 0, ((d : Int) + 1)), (8, 1, v2), (7, 0, (C (b + 1))), (6, 0, 8), (5, 0, (b : Int)), (0, 2, (a : Int)), (1, 2, (xt9 : Int)), (2, 0, (i2 : Int)), (3, 2, (wd9 : Int))]) (pc := 329) hx hb hnL (zd_X6_value (329, .lstore 12, 2, 0, []) (List.mem_of_getElem? (i := 156) rfl)) rfl rfl rfl ?_
                          refine zp_goto (tgt := 431) (pc := 331) hx hb (zd_X6_value (331, .goto 100, 3, 0, []) (List.mem_of_getElem? (i := 157) rfl)) rfl ?_
                          have hrg9 := zg_mulr bd1.1 bd1.2 bd2.1 bd2.2
                          refine zp_load (pc := 431) hx hb (zd_X6_value (431, .lload 12, 2, 0, []) (List.mem_of_getElem? (i := 206) rfl)) rfl (j := 0) rfl ?_
                          refine zp_ldc2 (pc := 433) hx hb hE (zd_X6_value (433, .ldc2_w 89, 3, 0, []) (List.mem_of_getElem? (i := 207) rfl)) (j := 13) rfl ?_
                          refine zp_lcmp (pc := 436) (tgt := 449) hx hb (zd_X6_value (436, .lcmp, 1, 0, []) (List.mem_of_getElem? (i := 208) rfl)) (zd_X6_value (437, .ifCond .gt 12, 3, 0, []) (List.mem_of_getElem? (i := 209) rfl)) rfl (fun (hc148 : 1000000000 < (v1 * v2)) => ?_) (fun (hc148 : ¬ (1000000000 < (v1 * v2))) => ?_)
                          · refine zp_ldc2 (pc := 449) hx hb hE (zd_X6_value (449, .ldc2_w 53, 3, 0, []) (List.mem_of_getElem? (i := 214) rfl)) (j := 12) rfl ?_
                            have hz : x en = none := kb (zg_bnn (fun h => absurd h.1 (by decide)) (show (v1 * v2) = yd_v 22 v1 v2 from rfl) (by omega))
                            refine zp_lret (pc := 452) (n := (-9000000000)) hx hb hE hQ hU5 rfl (by decide) (zd_X6_value (452, .lreturn, 1, 0, []) (List.mem_of_getElem? (i := 215) rfl)) (j := 0) rfl (zp_o1 (by first | assumption | exact zp_r1 (by omega) (by omega))) ?_
                            rw [hps]
                            exact ⟨rfl, fun v hv => (by rw [hz] at hv; cases hv), fun _ => rfl⟩
                          · refine zp_load (pc := 440) hx hb (zd_X6_value (440, .lload 12, 2, 0, []) (List.mem_of_getElem? (i := 210) rfl)) rfl (j := 0) rfl ?_
                            refine zp_ldc2 (pc := 442) hx hb hE (zd_X6_value (442, .ldc2_w 91, 3, 0, []) (List.mem_of_getElem? (i := 211) rfl)) (j := 14) rfl ?_
                            refine zp_lcmp (pc := 445) (tgt := 453) hx hb (zd_X6_value (445, .lcmp, 1, 0, []) (List.mem_of_getElem? (i := 212) rfl)) (zd_X6_value (446, .ifCond .ge 7, 3, 0, []) (List.mem_of_getElem? (i := 213) rfl)) rfl (fun (hc149 : (-1000000000) ≤ (v1 * v2)) => ?_) (fun (hc149 : ¬ ((-1000000000) ≤ (v1 * v2))) => ?_)
                            · refine zp_load (pc := 453) hx hb (zd_X6_value (453, .aload_n 0, 1, 0, []) (List.mem_of_getElem? (i := 216) rfl)) rfl (j := 7) rfl ?_
                              refine zp_getf (n := (st : Int)) (pc := 454) hx hb hE hw (zd_X6_value (454, .getfield 15, 3, 0, []) (List.mem_of_getElem? (i := 217) rfl)) (j := 5) rfl rfl rfl hp hm.1 ?_
                              refine zp_load (pc := 457) hx hb (zd_X6_value (457, .iload 4, 2, 0, []) (List.mem_of_getElem? (i := 218) rfl)) rfl (j := 2) rfl ?_
                              refine zp_const (pc := 459) hx hb (zd_X6_value (459, .iconst 1, 1, 0, []) (List.mem_of_getElem? (i := 219) rfl)) rfl rfl ?_
                              refine zp_sub (n := (d : Int)) (pc := 460) hx hb (zd_X6_value (460, .isub, 1, 0, []) (List.mem_of_getElem? (i := 220) rfl)) (by omega) (zp_r0 (by omega) (by omega)) ?_
                              refine zp_load (pc := 461) hx hb (zd_X6_value (461, .lload 12, 2, 0, []) (List.mem_of_getElem? (i := 221) rfl)) rfl (j := 0) rfl ?_
                              refine zp_last (j := d) (pc := 463) hx hb hw heff (zd_X6_value (463, .lastore, 1, 0, []) (List.mem_of_getElem? (i := 222) rfl)) (show zp_ia 2 28 = some (64, 1, 0, (-9223372036854775808), 9223372036854775807) from rfl) qst (by omega) (by omega) rfl ?_
                              refine zp_iinc (L' := [(5, 0, ((b : Int) + 2)), (12, 1, (v1 * v2)), (10, 1, v1), (4, 0, ((d : Int) + 1)), (8, 1, v2), (7, 0, (C (b + 1))), (6, 0, 8), (0, 2, (a : Int)), (1, 2, (xt9 : Int)), (2, 0, (i2 : Int)), (3, 2, (wd9 : Int))]) (n := ((b : Int) + 2)) (pc := 464) hx hb hnL (zd_X6_value (464, .iinc 5 2, 3, 0, []) (List.mem_of_getElem? (i := 223) rfl)) (j := 6) rfl (by omega) (zp_r0 (by omega) (by omega)) rfl rfl ?_
                              refine zp_goto (tgt := 13) (pc := 467) hx hb (zd_X6_value (467, .goto (-454), 3, 0, []) (List.mem_of_getElem? (i := 224) rfl)) rfl ?_
                              refine zp_drop (L' := [(4, 0, ((d : Int) + 1)), (5, 0, ((b : Int) + 2)), (0, 2, (a : Int)), (1, 2, (xt9 : Int)), (2, 0, (i2 : Int)), (3, 2, (wd9 : Int))]) (by simp) ?_
                              exact kk (v1 * v2) _ (zg_bns (fun h => absurd h.1 (by decide)) (show (v1 * v2) = yd_v 22 v1 v2 from rfl) (by omega) (by omega)) (zgV_s hm n1 n2 n3 n4) (fun j hj => zp_set_ne (Or.inr (by omega))) zp_set_self
                            · refine zp_ldc2 (pc := 449) hx hb hE (zd_X6_value (449, .ldc2_w 53, 3, 0, []) (List.mem_of_getElem? (i := 214) rfl)) (j := 12) rfl ?_
                              have hz : x en = none := kb (zg_bnn (fun h => absurd h.1 (by decide)) (show (v1 * v2) = yd_v 22 v1 v2 from rfl) (by omega))
                              refine zp_lret (pc := 452) (n := (-9000000000)) hx hb hE hQ hU5 rfl (by decide) (zd_X6_value (452, .lreturn, 1, 0, []) (List.mem_of_getElem? (i := 215) rfl)) (j := 0) rfl (zp_o1 (by first | assumption | exact zp_r1 (by omega) (by omega))) ?_
                              rw [hps]
                              exact ⟨rfl, fun v hv => (by rw [hz] at hv; cases hv), fun _ => rfl⟩
                        · exfalso
                          omega
                      · exfalso
                        omega
                  · exfalso
                    omega
                · exfalso
                  omega
              · exfalso
                omega
            · exfalso
              omega
  have step_9 : ∀ (b d : Nat) (v1 v2 : Int) (G : Nat → Nat → Int), b < e9 → d + 2 < 64 → zgV a xt9 cd st wd9 N C Wd G → C b = 9 → G st (2000 + d) = v1 → G st (2000 + (d + 1)) = v2 → -2147483648 ≤ v1 ∧ v1 ≤ 2147483648 → -2147483648 ≤ v2 ∧ v2 ≤ 2147483648 → (∀ (v : Int) (G' : Nat → Nat → Int), yd_bn 23 v1 v2 = some v → zgV a xt9 cd st wd9 N C Wd G' → (∀ j, j < d → G' st (2000 + j) = G st (2000 + j)) → G' st (2000 + d) = v → zp_J p l e R s m args below meth c Q w u [] 13 [(4, 0, ((d + 1 : Nat) : Int)), (5, 0, ((b + 2 : Nat) : Int)), (0, 2, (a : Int)), (1, 2, (xt9 : Int)), (2, 0, (i2 : Int)), (3, 2, (wd9 : Int))] [] u.1 G') → (yd_bn 23 v1 v2 = none → x en = none) → zp_J p l e R s m args below meth c Q w u [] 13 [(4, 0, ((d + 2 : Nat) : Int)), (5, 0, ((b : Nat) : Int)), (0, 2, (a : Int)), (1, 2, (xt9 : Int)), (2, 0, (i2 : Int)), (3, 2, (wd9 : Int))] [] u.1 G := by
    clear step_l1 step_l2 exitv step_nt step_b4 step_b5 step_6 step_7 step_8
    intro b d v1 v2 G hb2 hd hm o1 e1 e2 bd1 bd2 kk kb
    have ho1 : G cd (2000 + b) = 9 := (hm.2.2.2.1 b).trans o1
    refine zp_drop (L' := [(4, 0, ((d : Int) + 2)), (5, 0, (b : Int)), (0, 2, (a : Int)), (1, 2, (xt9 : Int)), (2, 0, (i2 : Int)), (3, 2, (wd9 : Int))]) (by simp <;> omega) ?_
    have h99 : zk_rg 1 (-9000000000) := ⟨by decide, by decide⟩
    by_cases hn1 : v2 = 0
    · have hl13 := hm.2.2.1
      refine zp_load (pc := 13) hx hb (zd_X6_value (13, .iload 5, 2, 0, []) (List.mem_of_getElem? (i := 9) rfl)) rfl (j := 1) rfl ?_
      refine zp_if (pc := 15) (tgt := 470) hx hb (zd_X6_value (15, .ifCond .lt 455, 3, 0, []) (List.mem_of_getElem? (i := 10) rfl)) rfl (fun (hc150 : (b : Int) < 0) => ?_) (fun (hc150 : ¬ ((b : Int) < 0)) => ?_)
      · exfalso
        omega
      · refine zp_load (pc := 18) hx hb (zd_X6_value (18, .iload 5, 2, 0, []) (List.mem_of_getElem? (i := 11) rfl)) rfl (j := 1) rfl ?_
        refine zp_const (pc := 20) hx hb (zd_X6_value (20, .iconst 1, 1, 0, []) (List.mem_of_getElem? (i := 12) rfl)) rfl rfl ?_
        refine zp_add (n := ((b : Int) + 1)) (pc := 21) hx hb (zd_X6_value (21, .iadd, 1, 0, []) (List.mem_of_getElem? (i := 13) rfl)) (by omega) (zp_r0 (by omega) (by omega)) ?_
        refine zp_load (pc := 22) hx hb (zd_X6_value (22, .aload_n 1, 1, 0, []) (List.mem_of_getElem? (i := 14) rfl)) rfl (j := 3) rfl ?_
        refine zp_getf (n := (cd : Int)) (pc := 23) hx hb hE hw (zd_X6_value (23, .getfield 86, 3, 0, []) (List.mem_of_getElem? (i := 15) rfl)) (j := 10) rfl rfl rfl qxt hm.2.1 ?_
        refine zp_alenN (N := N) (pc := 26) hx hb hw (zd_X6_value (26, .arraylength, 1, 0, []) (List.mem_of_getElem? (i := 16) rfl)) qcd ⟨_, rfl, by decide, by decide⟩ hm.2.2.1 ?_
        refine zp_icmp (pc := 27) (tgt := 470) hx hb (zd_X6_value (27, .if_icmp .ge 443, 3, 0, []) (List.mem_of_getElem? (i := 17) rfl)) rfl (fun (hc151 : (N : Int) ≤ ((b : Int) + 1)) => ?_) (fun (hc151 : ¬ ((N : Int) ≤ ((b : Int) + 1))) => ?_)
        · exfalso
          omega
        · refine zp_load (pc := 30) hx hb (zd_X6_value (30, .iload 4, 2, 0, []) (List.mem_of_getElem? (i := 18) rfl)) rfl (j := 0) rfl ?_
          refine zp_const (pc := 32) hx hb (zd_X6_value (32, .bipush 64, 2, 0, []) (List.mem_of_getElem? (i := 19) rfl)) rfl rfl ?_
          refine zp_icmp (pc := 34) (tgt := 470) hx hb (zd_X6_value (34, .if_icmp .ge 436, 3, 0, []) (List.mem_of_getElem? (i := 20) rfl)) rfl (fun (hc152 : 64 ≤ ((d : Int) + 2)) => ?_) (fun (hc152 : ¬ (64 ≤ ((d : Int) + 2))) => ?_)
          · exfalso
            omega
          · refine zp_load (pc := 37) hx hb (zd_X6_value (37, .aload_n 1, 1, 0, []) (List.mem_of_getElem? (i := 21) rfl)) rfl (j := 3) rfl ?_
            refine zp_getf (n := (cd : Int)) (pc := 38) hx hb hE hw (zd_X6_value (38, .getfield 86, 3, 0, []) (List.mem_of_getElem? (i := 22) rfl)) (j := 10) rfl rfl rfl qxt hm.2.1 ?_
            refine zp_load (pc := 41) hx hb (zd_X6_value (41, .iload 5, 2, 0, []) (List.mem_of_getElem? (i := 23) rfl)) rfl (j := 1) rfl ?_
            refine zp_ialdN (j := b) (v := 9) (N := N) (pc := 43) hx hb hw (zd_X6_value (43, .iaload, 1, 0, []) (List.mem_of_getElem? (i := 24) rfl)) (show zp_ia 1 41 = some (0, 0, 0, (-1000000), 1000000) from rfl) ⟨_, rfl, by decide⟩ hm.2.2.1 qcd (by omega) (by omega) ho1 (fun hk153 => ?_)
            have hk153b := zp_int hk153
            refine zp_store (L' := [(6, 0, 9), (4, 0, ((d : Int) + 2)), (5, 0, (b : Int)), (0, 2, (a : Int)), (1, 2, (xt9 : Int)), (2, 0, (i2 : Int)), (3, 2, (wd9 : Int))]) (pc := 44) hx hb hnL (zd_X6_value (44, .istore 6, 2, 0, []) (List.mem_of_getElem? (i := 25) rfl)) rfl rfl rfl ?_
            refine zp_load (pc := 46) hx hb (zd_X6_value (46, .aload_n 1, 1, 0, []) (List.mem_of_getElem? (i := 26) rfl)) rfl (j := 4) rfl ?_
            refine zp_getf (n := (cd : Int)) (pc := 47) hx hb hE hw (zd_X6_value (47, .getfield 86, 3, 0, []) (List.mem_of_getElem? (i := 27) rfl)) (j := 10) rfl rfl rfl qxt hm.2.1 ?_
            refine zp_load (pc := 50) hx hb (zd_X6_value (50, .iload 5, 2, 0, []) (List.mem_of_getElem? (i := 28) rfl)) rfl (j := 2) rfl ?_
            refine zp_const (pc := 52) hx hb (zd_X6_value (52, .iconst 1, 1, 0, []) (List.mem_of_getElem? (i := 29) rfl)) rfl rfl ?_
            refine zp_add (n := ((b : Int) + 1)) (pc := 53) hx hb (zd_X6_value (53, .iadd, 1, 0, []) (List.mem_of_getElem? (i := 30) rfl)) (by omega) (zp_r0 (by omega) (by omega)) ?_
            refine zp_ialdN (j := (b + 1)) (v := (C (b + 1))) (N := N) (pc := 54) hx hb hw (zd_X6_value (54, .iaload, 1, 0, []) (List.mem_of_getElem? (i := 31) rfl)) (show zp_ia 1 41 = some (0, 0, 0, (-1000000), 1000000) from rfl) ⟨_, rfl, by decide⟩ hm.2.2.1 qcd (by omega) (by omega) (hm.2.2.2.1 (b + 1)) (fun hk154 => ?_)
            have hk154b := zp_int hk154
            refine zp_store (L' := [(7, 0, (C (b + 1))), (6, 0, 9), (4, 0, ((d : Int) + 2)), (5, 0, (b : Int)), (0, 2, (a : Int)), (1, 2, (xt9 : Int)), (2, 0, (i2 : Int)), (3, 2, (wd9 : Int))]) (pc := 55) hx hb hnL (zd_X6_value (55, .istore 7, 2, 0, []) (List.mem_of_getElem? (i := 32) rfl)) rfl rfl rfl ?_
            refine zp_load (pc := 57) hx hb (zd_X6_value (57, .iload 6, 2, 0, []) (List.mem_of_getElem? (i := 33) rfl)) rfl (j := 1) rfl ?_
            refine zp_const (pc := 59) hx hb (zd_X6_value (59, .iconst 1, 1, 0, []) (List.mem_of_getElem? (i := 34) rfl)) rfl rfl ?_
            refine zp_icmp (pc := 60) (tgt := 69) hx hb (zd_X6_value (60, .if_icmp .eq 9, 3, 0, []) (List.mem_of_getElem? (i := 35) rfl)) rfl (fun (hc155 : 9 = 1) => ?_) (fun (hc155 : ¬ (9 = 1)) => ?_)
            · exfalso
              omega
            · refine zp_load (pc := 63) hx hb (zd_X6_value (63, .iload 6, 2, 0, []) (List.mem_of_getElem? (i := 36) rfl)) rfl (j := 1) rfl ?_
              refine zp_const (pc := 65) hx hb (zd_X6_value (65, .iconst 2, 1, 0, []) (List.mem_of_getElem? (i := 37) rfl)) rfl rfl ?_
              refine zp_icmp (pc := 66) (tgt := 123) hx hb (zd_X6_value (66, .if_icmp .ne 57, 3, 0, []) (List.mem_of_getElem? (i := 38) rfl)) rfl (fun (hc156 : ¬ 9 = 2) => ?_) (fun (hc156 : ¬ (¬ 9 = 2)) => ?_)
              · refine zp_load (pc := 123) hx hb (zd_X6_value (123, .iload 4, 2, 0, []) (List.mem_of_getElem? (i := 67) rfl)) rfl (j := 2) rfl ?_
                refine zp_const (pc := 125) hx hb (zd_X6_value (125, .iconst 1, 1, 0, []) (List.mem_of_getElem? (i := 68) rfl)) rfl rfl ?_
                refine zp_icmp (pc := 126) (tgt := 133) hx hb (zd_X6_value (126, .if_icmp .ge 7, 3, 0, []) (List.mem_of_getElem? (i := 69) rfl)) rfl (fun (hc157 : 1 ≤ ((d : Int) + 2)) => ?_) (fun (hc157 : ¬ (1 ≤ ((d : Int) + 2))) => ?_)
                · refine zp_load (pc := 133) hx hb (zd_X6_value (133, .aload_n 0, 1, 0, []) (List.mem_of_getElem? (i := 72) rfl)) rfl (j := 4) rfl ?_
                  refine zp_getf (n := (st : Int)) (pc := 134) hx hb hE hw (zd_X6_value (134, .getfield 15, 3, 0, []) (List.mem_of_getElem? (i := 73) rfl)) (j := 5) rfl rfl rfl hp hm.1 ?_
                  refine zp_load (pc := 137) hx hb (zd_X6_value (137, .iload 4, 2, 0, []) (List.mem_of_getElem? (i := 74) rfl)) rfl (j := 2) rfl ?_
                  refine zp_const (pc := 139) hx hb (zd_X6_value (139, .iconst 1, 1, 0, []) (List.mem_of_getElem? (i := 75) rfl)) rfl rfl ?_
                  refine zp_sub (n := ((d : Int) + 1)) (pc := 140) hx hb (zd_X6_value (140, .isub, 1, 0, []) (List.mem_of_getElem? (i := 76) rfl)) (by omega) (zp_r0 (by omega) (by omega)) ?_
                  refine zp_lald (j := (d + 1)) (v := v2) (pc := 141) hx hb hw (zd_X6_value (141, .laload, 1, 0, []) (List.mem_of_getElem? (i := 77) rfl)) (show zp_ia 2 28 = some (64, 1, 0, (-9223372036854775808), 9223372036854775807) from rfl) qst (by omega) (by omega) e2 ?_
                  refine zp_store (L' := [(8, 1, v2), (7, 0, (C (b + 1))), (6, 0, 9), (4, 0, ((d : Int) + 2)), (5, 0, (b : Int)), (0, 2, (a : Int)), (1, 2, (xt9 : Int)), (2, 0, (i2 : Int)), (3, 2, (wd9 : Int))]) (pc := 142) hx hb hnL (zd_X6_value (142, .lstore 8, 2, 0, []) (List.mem_of_getElem? (i := 78) rfl)) rfl rfl rfl ?_
                  refine zp_load (pc := 144) hx hb (zd_X6_value (144, .iload 6, 2, 0, []) (List.mem_of_getElem? (i := 79) rfl)) rfl (j := 2) rfl ?_
                  refine zp_if (pc := 146) (tgt := 152) hx hb (zd_X6_value (146, .ifCond .ne 6, 3, 0, []) (List.mem_of_getElem? (i := 80) rfl)) rfl (fun (hc159 : ¬ 9 = 0) => ?_) (fun (hc159 : ¬ (¬ 9 = 0)) => ?_)
                  · refine zp_load (pc := 152) hx hb (zd_X6_value (152, .iload 6, 2, 0, []) (List.mem_of_getElem? (i := 83) rfl)) rfl (j := 2) rfl ?_
                    refine zp_const (pc := 154) hx hb (zd_X6_value (154, .iconst 3, 1, 0, []) (List.mem_of_getElem? (i := 84) rfl)) rfl rfl ?_
                    refine zp_icmp (pc := 155) (tgt := 174) hx hb (zd_X6_value (155, .if_icmp .ne 19, 3, 0, []) (List.mem_of_getElem? (i := 85) rfl)) rfl (fun (hc160 : ¬ 9 = 3) => ?_) (fun (hc160 : ¬ (¬ 9 = 3)) => ?_)
                    · refine zp_load (pc := 174) hx hb (zd_X6_value (174, .iload 6, 2, 0, []) (List.mem_of_getElem? (i := 96) rfl)) rfl (j := 2) rfl ?_
                      refine zp_const (pc := 176) hx hb (zd_X6_value (176, .iconst 4, 1, 0, []) (List.mem_of_getElem? (i := 97) rfl)) rfl rfl ?_
                      refine zp_icmp (pc := 177) (tgt := 186) hx hb (zd_X6_value (177, .if_icmp .eq 9, 3, 0, []) (List.mem_of_getElem? (i := 98) rfl)) rfl (fun (hc161 : 9 = 4) => ?_) (fun (hc161 : ¬ (9 = 4)) => ?_)
                      · exfalso
                        omega
                      · refine zp_load (pc := 180) hx hb (zd_X6_value (180, .iload 6, 2, 0, []) (List.mem_of_getElem? (i := 99) rfl)) rfl (j := 2) rfl ?_
                        refine zp_const (pc := 182) hx hb (zd_X6_value (182, .iconst 5, 1, 0, []) (List.mem_of_getElem? (i := 100) rfl)) rfl rfl ?_
                        refine zp_icmp (pc := 183) (tgt := 236) hx hb (zd_X6_value (183, .if_icmp .ne 53, 3, 0, []) (List.mem_of_getElem? (i := 101) rfl)) rfl (fun (hc162 : ¬ 9 = 5) => ?_) (fun (hc162 : ¬ (¬ 9 = 5)) => ?_)
                        · refine zp_load (pc := 236) hx hb (zd_X6_value (236, .iload 4, 2, 0, []) (List.mem_of_getElem? (i := 128) rfl)) rfl (j := 3) rfl ?_
                          refine zp_const (pc := 238) hx hb (zd_X6_value (238, .iconst 2, 1, 0, []) (List.mem_of_getElem? (i := 129) rfl)) rfl rfl ?_
                          refine zp_icmp (pc := 239) (tgt := 246) hx hb (zd_X6_value (239, .if_icmp .ge 7, 3, 0, []) (List.mem_of_getElem? (i := 130) rfl)) rfl (fun (hc163 : 2 ≤ ((d : Int) + 2)) => ?_) (fun (hc163 : ¬ (2 ≤ ((d : Int) + 2))) => ?_)
                          · refine zp_iinc (L' := [(4, 0, ((d : Int) + 1)), (8, 1, v2), (7, 0, (C (b + 1))), (6, 0, 9), (5, 0, (b : Int)), (0, 2, (a : Int)), (1, 2, (xt9 : Int)), (2, 0, (i2 : Int)), (3, 2, (wd9 : Int))]) (n := ((d : Int) + 1)) (pc := 246) hx hb hnL (zd_X6_value (246, .iinc 4 (-1), 3, 0, []) (List.mem_of_getElem? (i := 133) rfl)) (j := 3) rfl (by omega) (zp_r0 (by omega) (by omega)) rfl rfl ?_
                            refine zp_load (pc := 249) hx hb (zd_X6_value (249, .aload_n 0, 1, 0, []) (List.mem_of_getElem? (i := 134) rfl)) rfl (j := 5) rfl ?_
                            refine zp_getf (n := (st : Int)) (pc := 250) hx hb hE hw (zd_X6_value (250, .getfield 15, 3, 0, []) (List.mem_of_getElem? (i := 135) rfl)) (j := 5) rfl rfl rfl hp hm.1 ?_
                            refine zp_load (pc := 253) hx hb (zd_X6_value (253, .iload 4, 2, 0, []) (List.mem_of_getElem? (i := 136) rfl)) rfl (j := 0) rfl ?_
                            refine zp_const (pc := 255) hx hb (zd_X6_value (255, .iconst 1, 1, 0, []) (List.mem_of_getElem? (i := 137) rfl)) rfl rfl ?_
                            refine zp_sub (n := (d : Int)) (pc := 256) hx hb (zd_X6_value (256, .isub, 1, 0, []) (List.mem_of_getElem? (i := 138) rfl)) (by omega) (zp_r0 (by omega) (by omega)) ?_
                            refine zp_lald (j := d) (v := v1) (pc := 257) hx hb hw (zd_X6_value (257, .laload, 1, 0, []) (List.mem_of_getElem? (i := 139) rfl)) (show zp_ia 2 28 = some (64, 1, 0, (-9223372036854775808), 9223372036854775807) from rfl) qst (by omega) (by omega) e1 ?_
                            refine zp_store (L' := [(10, 1, v1), (4, 0, ((d : Int) + 1)), (8, 1, v2), (7, 0, (C (b + 1))), (6, 0, 9), (5, 0, (b : Int)), (0, 2, (a : Int)), (1, 2, (xt9 : Int)), (2, 0, (i2 : Int)), (3, 2, (wd9 : Int))]) (pc := 258) hx hb hnL (zd_X6_value (258, .lstore 10, 2, 0, []) (List.mem_of_getElem? (i := 140) rfl)) rfl rfl rfl ?_
                            refine zp_load (pc := 260) hx hb (zd_X6_value (260, .iload 6, 2, 0, []) (List.mem_of_getElem? (i := 141) rfl)) rfl (j := 4) rfl ?_
                            refine zp_tin (tgt := 334) (off := 72) (pc := 262) hx hb (zd_X6_value (262, .tableswitch 154 6 12 #[42, 52, 62, 72, 95, 118, 136], 42, 0, []) (List.mem_of_getElem? (i := 142) rfl)) (by decide) (by decide) (by decide) rfl ?_
                            refine zp_load (pc := 334) hx hb (zd_X6_value (334, .lload 8, 2, 0, []) (List.mem_of_getElem? (i := 158) rfl)) rfl (j := 2) rfl ?_
                            refine zp_const (pc := 336) hx hb (zd_X6_value (336, .lconst 0, 1, 0, []) (List.mem_of_getElem? (i := 159) rfl)) rfl rfl ?_
                            refine zp_lcmp (pc := 337) (tgt := 347) hx hb (zd_X6_value (337, .lcmp, 1, 0, []) (List.mem_of_getElem? (i := 160) rfl)) (zd_X6_value (338, .ifCond .ne 9, 3, 0, []) (List.mem_of_getElem? (i := 161) rfl)) rfl (fun (hc165 : ¬ v2 = 0) => ?_) (fun (hc165 : ¬ (¬ v2 = 0)) => ?_)
                            · exfalso
                              omega
                            · refine zp_ldc2 (pc := 341) hx hb hE (zd_X6_value (341, .ldc2_w 53, 3, 0, []) (List.mem_of_getElem? (i := 162) rfl)) (j := 12) rfl ?_
                              refine zp_goto (tgt := 352) (pc := 344) hx hb (zd_X6_value (344, .goto 8, 3, 0, []) (List.mem_of_getElem? (i := 163) rfl)) rfl ?_
                              refine zp_store (L' := [(12, 1, (-9000000000)), (10, 1, v1), (4, 0, ((d : Int) + 1)), (8, 1, v2), (7, 0, (C (b + 1))), (6, 0, 9), (5, 0, (b : Int)), (0, 2, (a : Int)), (1, 2, (xt9 : Int)), (2, 0, (i2 : Int)), (3, 2, (wd9 : Int))]) (pc := 352) hx hb hnL (zd_X6_value (352, .lstore 12, 2, 0, []) (List.mem_of_getElem? (i := 167) rfl)) rfl rfl rfl ?_
                              refine zp_goto (tgt := 431) (pc := 354) hx hb (zd_X6_value (354, .goto 77, 3, 0, []) (List.mem_of_getElem? (i := 168) rfl)) rfl ?_
                              refine zp_load (pc := 431) hx hb (zd_X6_value (431, .lload 12, 2, 0, []) (List.mem_of_getElem? (i := 206) rfl)) rfl (j := 0) rfl ?_
                              refine zp_ldc2 (pc := 433) hx hb hE (zd_X6_value (433, .ldc2_w 89, 3, 0, []) (List.mem_of_getElem? (i := 207) rfl)) (j := 13) rfl ?_
                              refine zp_lcmp (pc := 436) (tgt := 449) hx hb (zd_X6_value (436, .lcmp, 1, 0, []) (List.mem_of_getElem? (i := 208) rfl)) (zd_X6_value (437, .ifCond .gt 12, 3, 0, []) (List.mem_of_getElem? (i := 209) rfl)) rfl (fun (hc166 : 1000000000 < (-9000000000)) => ?_) (fun (hc166 : ¬ (1000000000 < (-9000000000))) => ?_)
                              · exfalso
                                omega
                              · refine zp_load (pc := 440) hx hb (zd_X6_value (440, .lload 12, 2, 0, []) (List.mem_of_getElem? (i := 210) rfl)) rfl (j := 0) rfl ?_
                                refine zp_ldc2 (pc := 442) hx hb hE (zd_X6_value (442, .ldc2_w 91, 3, 0, []) (List.mem_of_getElem? (i := 211) rfl)) (j := 14) rfl ?_
                                refine zp_lcmp (pc := 445) (tgt := 453) hx hb (zd_X6_value (445, .lcmp, 1, 0, []) (List.mem_of_getElem? (i := 212) rfl)) (zd_X6_value (446, .ifCond .ge 7, 3, 0, []) (List.mem_of_getElem? (i := 213) rfl)) rfl (fun (hc167 : (-1000000000) ≤ (-9000000000)) => ?_) (fun (hc167 : ¬ ((-1000000000) ≤ (-9000000000))) => ?_)
                                · exfalso
                                  omega
                                · refine zp_ldc2 (pc := 449) hx hb hE (zd_X6_value (449, .ldc2_w 53, 3, 0, []) (List.mem_of_getElem? (i := 214) rfl)) (j := 12) rfl ?_
                                  have hz : x en = none := kb (zg_bn0 ⟨by decide, hn1⟩)
                                  refine zp_lret (pc := 452) (n := (-9000000000)) hx hb hE hQ hU5 rfl (by decide) (zd_X6_value (452, .lreturn, 1, 0, []) (List.mem_of_getElem? (i := 215) rfl)) (j := 0) rfl (zp_o1 (by first | assumption | exact zp_r1 (by omega) (by omega))) ?_
                                  rw [hps]
                                  exact ⟨rfl, fun v hv => (by rw [hz] at hv; cases hv), fun _ => rfl⟩
                          · exfalso
                            omega
                        · exfalso
                          omega
                    · exfalso
                      omega
                  · exfalso
                    omega
                · exfalso
                  omega
              · exfalso
                omega
    · have hn0 : v2 ≠ 0 := hn1
      have hl13 := hm.2.2.1
      refine zp_load (pc := 13) hx hb (zd_X6_value (13, .iload 5, 2, 0, []) (List.mem_of_getElem? (i := 9) rfl)) rfl (j := 1) rfl ?_
      refine zp_if (pc := 15) (tgt := 470) hx hb (zd_X6_value (15, .ifCond .lt 455, 3, 0, []) (List.mem_of_getElem? (i := 10) rfl)) rfl (fun (hc168 : (b : Int) < 0) => ?_) (fun (hc168 : ¬ ((b : Int) < 0)) => ?_)
      · exfalso
        omega
      · refine zp_load (pc := 18) hx hb (zd_X6_value (18, .iload 5, 2, 0, []) (List.mem_of_getElem? (i := 11) rfl)) rfl (j := 1) rfl ?_
        refine zp_const (pc := 20) hx hb (zd_X6_value (20, .iconst 1, 1, 0, []) (List.mem_of_getElem? (i := 12) rfl)) rfl rfl ?_
        refine zp_add (n := ((b : Int) + 1)) (pc := 21) hx hb (zd_X6_value (21, .iadd, 1, 0, []) (List.mem_of_getElem? (i := 13) rfl)) (by omega) (zp_r0 (by omega) (by omega)) ?_
        refine zp_load (pc := 22) hx hb (zd_X6_value (22, .aload_n 1, 1, 0, []) (List.mem_of_getElem? (i := 14) rfl)) rfl (j := 3) rfl ?_
        refine zp_getf (n := (cd : Int)) (pc := 23) hx hb hE hw (zd_X6_value (23, .getfield 86, 3, 0, []) (List.mem_of_getElem? (i := 15) rfl)) (j := 10) rfl rfl rfl qxt hm.2.1 ?_
        refine zp_alenN (N := N) (pc := 26) hx hb hw (zd_X6_value (26, .arraylength, 1, 0, []) (List.mem_of_getElem? (i := 16) rfl)) qcd ⟨_, rfl, by decide, by decide⟩ hm.2.2.1 ?_
        refine zp_icmp (pc := 27) (tgt := 470) hx hb (zd_X6_value (27, .if_icmp .ge 443, 3, 0, []) (List.mem_of_getElem? (i := 17) rfl)) rfl (fun (hc169 : (N : Int) ≤ ((b : Int) + 1)) => ?_) (fun (hc169 : ¬ ((N : Int) ≤ ((b : Int) + 1))) => ?_)
        · exfalso
          omega
        · refine zp_load (pc := 30) hx hb (zd_X6_value (30, .iload 4, 2, 0, []) (List.mem_of_getElem? (i := 18) rfl)) rfl (j := 0) rfl ?_
          refine zp_const (pc := 32) hx hb (zd_X6_value (32, .bipush 64, 2, 0, []) (List.mem_of_getElem? (i := 19) rfl)) rfl rfl ?_
          refine zp_icmp (pc := 34) (tgt := 470) hx hb (zd_X6_value (34, .if_icmp .ge 436, 3, 0, []) (List.mem_of_getElem? (i := 20) rfl)) rfl (fun (hc170 : 64 ≤ ((d : Int) + 2)) => ?_) (fun (hc170 : ¬ (64 ≤ ((d : Int) + 2))) => ?_)
          · exfalso
            omega
          · refine zp_load (pc := 37) hx hb (zd_X6_value (37, .aload_n 1, 1, 0, []) (List.mem_of_getElem? (i := 21) rfl)) rfl (j := 3) rfl ?_
            refine zp_getf (n := (cd : Int)) (pc := 38) hx hb hE hw (zd_X6_value (38, .getfield 86, 3, 0, []) (List.mem_of_getElem? (i := 22) rfl)) (j := 10) rfl rfl rfl qxt hm.2.1 ?_
            refine zp_load (pc := 41) hx hb (zd_X6_value (41, .iload 5, 2, 0, []) (List.mem_of_getElem? (i := 23) rfl)) rfl (j := 1) rfl ?_
            refine zp_ialdN (j := b) (v := 9) (N := N) (pc := 43) hx hb hw (zd_X6_value (43, .iaload, 1, 0, []) (List.mem_of_getElem? (i := 24) rfl)) (show zp_ia 1 41 = some (0, 0, 0, (-1000000), 1000000) from rfl) ⟨_, rfl, by decide⟩ hm.2.2.1 qcd (by omega) (by omega) ho1 (fun hk171 => ?_)
            have hk171b := zp_int hk171
            refine zp_store (L' := [(6, 0, 9), (4, 0, ((d : Int) + 2)), (5, 0, (b : Int)), (0, 2, (a : Int)), (1, 2, (xt9 : Int)), (2, 0, (i2 : Int)), (3, 2, (wd9 : Int))]) (pc := 44) hx hb hnL (zd_X6_value (44, .istore 6, 2, 0, []) (List.mem_of_getElem? (i := 25) rfl)) rfl rfl rfl ?_
            refine zp_load (pc := 46) hx hb (zd_X6_value (46, .aload_n 1, 1, 0, []) (List.mem_of_getElem? (i := 26) rfl)) rfl (j := 4) rfl ?_
            refine zp_getf (n := (cd : Int)) (pc := 47) hx hb hE hw (zd_X6_value (47, .getfield 86, 3, 0, []) (List.mem_of_getElem? (i := 27) rfl)) (j := 10) rfl rfl rfl qxt hm.2.1 ?_
            refine zp_load (pc := 50) hx hb (zd_X6_value (50, .iload 5, 2, 0, []) (List.mem_of_getElem? (i := 28) rfl)) rfl (j := 2) rfl ?_
            refine zp_const (pc := 52) hx hb (zd_X6_value (52, .iconst 1, 1, 0, []) (List.mem_of_getElem? (i := 29) rfl)) rfl rfl ?_
            refine zp_add (n := ((b : Int) + 1)) (pc := 53) hx hb (zd_X6_value (53, .iadd, 1, 0, []) (List.mem_of_getElem? (i := 30) rfl)) (by omega) (zp_r0 (by omega) (by omega)) ?_
            refine zp_ialdN (j := (b + 1)) (v := (C (b + 1))) (N := N) (pc := 54) hx hb hw (zd_X6_value (54, .iaload, 1, 0, []) (List.mem_of_getElem? (i := 31) rfl)) (show zp_ia 1 41 = some (0, 0, 0, (-1000000), 1000000) from rfl) ⟨_, rfl, by decide⟩ hm.2.2.1 qcd (by omega) (by omega) (hm.2.2.2.1 (b + 1)) (fun hk172 => ?_)
            have hk172b := zp_int hk172
            refine zp_store (L' := [(7, 0, (C (b + 1))), (6, 0, 9), (4, 0, ((d : Int) + 2)), (5, 0, (b : Int)), (0, 2, (a : Int)), (1, 2, (xt9 : Int)), (2, 0, (i2 : Int)), (3, 2, (wd9 : Int))]) (pc := 55) hx hb hnL (zd_X6_value (55, .istore 7, 2, 0, []) (List.mem_of_getElem? (i := 32) rfl)) rfl rfl rfl ?_
            refine zp_load (pc := 57) hx hb (zd_X6_value (57, .iload 6, 2, 0, []) (List.mem_of_getElem? (i := 33) rfl)) rfl (j := 1) rfl ?_
            refine zp_const (pc := 59) hx hb (zd_X6_value (59, .iconst 1, 1, 0, []) (List.mem_of_getElem? (i := 34) rfl)) rfl rfl ?_
            refine zp_icmp (pc := 60) (tgt := 69) hx hb (zd_X6_value (60, .if_icmp .eq 9, 3, 0, []) (List.mem_of_getElem? (i := 35) rfl)) rfl (fun (hc173 : 9 = 1) => ?_) (fun (hc173 : ¬ (9 = 1)) => ?_)
            · exfalso
              omega
            · refine zp_load (pc := 63) hx hb (zd_X6_value (63, .iload 6, 2, 0, []) (List.mem_of_getElem? (i := 36) rfl)) rfl (j := 1) rfl ?_
              refine zp_const (pc := 65) hx hb (zd_X6_value (65, .iconst 2, 1, 0, []) (List.mem_of_getElem? (i := 37) rfl)) rfl rfl ?_
              refine zp_icmp (pc := 66) (tgt := 123) hx hb (zd_X6_value (66, .if_icmp .ne 57, 3, 0, []) (List.mem_of_getElem? (i := 38) rfl)) rfl (fun (hc174 : ¬ 9 = 2) => ?_) (fun (hc174 : ¬ (¬ 9 = 2)) => ?_)
              · refine zp_load (pc := 123) hx hb (zd_X6_value (123, .iload 4, 2, 0, []) (List.mem_of_getElem? (i := 67) rfl)) rfl (j := 2) rfl ?_
                refine zp_const (pc := 125) hx hb (zd_X6_value (125, .iconst 1, 1, 0, []) (List.mem_of_getElem? (i := 68) rfl)) rfl rfl ?_
                refine zp_icmp (pc := 126) (tgt := 133) hx hb (zd_X6_value (126, .if_icmp .ge 7, 3, 0, []) (List.mem_of_getElem? (i := 69) rfl)) rfl (fun (hc175 : 1 ≤ ((d : Int) + 2)) => ?_) (fun (hc175 : ¬ (1 ≤ ((d : Int) + 2))) => ?_)
                · refine zp_load (pc := 133) hx hb (zd_X6_value (133, .aload_n 0, 1, 0, []) (List.mem_of_getElem? (i := 72) rfl)) rfl (j := 4) rfl ?_
                  refine zp_getf (n := (st : Int)) (pc := 134) hx hb hE hw (zd_X6_value (134, .getfield 15, 3, 0, []) (List.mem_of_getElem? (i := 73) rfl)) (j := 5) rfl rfl rfl hp hm.1 ?_
                  refine zp_load (pc := 137) hx hb (zd_X6_value (137, .iload 4, 2, 0, []) (List.mem_of_getElem? (i := 74) rfl)) rfl (j := 2) rfl ?_
                  refine zp_const (pc := 139) hx hb (zd_X6_value (139, .iconst 1, 1, 0, []) (List.mem_of_getElem? (i := 75) rfl)) rfl rfl ?_
                  refine zp_sub (n := ((d : Int) + 1)) (pc := 140) hx hb (zd_X6_value (140, .isub, 1, 0, []) (List.mem_of_getElem? (i := 76) rfl)) (by omega) (zp_r0 (by omega) (by omega)) ?_
                  refine zp_lald (j := (d + 1)) (v := v2) (pc := 141) hx hb hw (zd_X6_value (141, .laload, 1, 0, []) (List.mem_of_getElem? (i := 77) rfl)) (show zp_ia 2 28 = some (64, 1, 0, (-9223372036854775808), 9223372036854775807) from rfl) qst (by omega) (by omega) e2 ?_
                  refine zp_store (L' := [(8, 1, v2), (7, 0, (C (b + 1))), (6, 0, 9), (4, 0, ((d : Int) + 2)), (5, 0, (b : Int)), (0, 2, (a : Int)), (1, 2, (xt9 : Int)), (2, 0, (i2 : Int)), (3, 2, (wd9 : Int))]) (pc := 142) hx hb hnL (zd_X6_value (142, .lstore 8, 2, 0, []) (List.mem_of_getElem? (i := 78) rfl)) rfl rfl rfl ?_
                  refine zp_load (pc := 144) hx hb (zd_X6_value (144, .iload 6, 2, 0, []) (List.mem_of_getElem? (i := 79) rfl)) rfl (j := 2) rfl ?_
                  refine zp_if (pc := 146) (tgt := 152) hx hb (zd_X6_value (146, .ifCond .ne 6, 3, 0, []) (List.mem_of_getElem? (i := 80) rfl)) rfl (fun (hc177 : ¬ 9 = 0) => ?_) (fun (hc177 : ¬ (¬ 9 = 0)) => ?_)
                  · refine zp_load (pc := 152) hx hb (zd_X6_value (152, .iload 6, 2, 0, []) (List.mem_of_getElem? (i := 83) rfl)) rfl (j := 2) rfl ?_
                    refine zp_const (pc := 154) hx hb (zd_X6_value (154, .iconst 3, 1, 0, []) (List.mem_of_getElem? (i := 84) rfl)) rfl rfl ?_
                    refine zp_icmp (pc := 155) (tgt := 174) hx hb (zd_X6_value (155, .if_icmp .ne 19, 3, 0, []) (List.mem_of_getElem? (i := 85) rfl)) rfl (fun (hc178 : ¬ 9 = 3) => ?_) (fun (hc178 : ¬ (¬ 9 = 3)) => ?_)
                    · refine zp_load (pc := 174) hx hb (zd_X6_value (174, .iload 6, 2, 0, []) (List.mem_of_getElem? (i := 96) rfl)) rfl (j := 2) rfl ?_
                      refine zp_const (pc := 176) hx hb (zd_X6_value (176, .iconst 4, 1, 0, []) (List.mem_of_getElem? (i := 97) rfl)) rfl rfl ?_
                      refine zp_icmp (pc := 177) (tgt := 186) hx hb (zd_X6_value (177, .if_icmp .eq 9, 3, 0, []) (List.mem_of_getElem? (i := 98) rfl)) rfl (fun (hc179 : 9 = 4) => ?_) (fun (hc179 : ¬ (9 = 4)) => ?_)
                      · exfalso
                        omega
                      · refine zp_load (pc := 180) hx hb (zd_X6_value (180, .iload 6, 2, 0, []) (List.mem_of_getElem? (i := 99) rfl)) rfl (j := 2) rfl ?_
                        refine zp_const (pc := 182) hx hb (zd_X6_value (182, .iconst 5, 1, 0, []) (List.mem_of_getElem? (i := 100) rfl)) rfl rfl ?_
                        refine zp_icmp (pc := 183) (tgt := 236) hx hb (zd_X6_value (183, .if_icmp .ne 53, 3, 0, []) (List.mem_of_getElem? (i := 101) rfl)) rfl (fun (hc180 : ¬ 9 = 5) => ?_) (fun (hc180 : ¬ (¬ 9 = 5)) => ?_)
                        · refine zp_load (pc := 236) hx hb (zd_X6_value (236, .iload 4, 2, 0, []) (List.mem_of_getElem? (i := 128) rfl)) rfl (j := 3) rfl ?_
                          refine zp_const (pc := 238) hx hb (zd_X6_value (238, .iconst 2, 1, 0, []) (List.mem_of_getElem? (i := 129) rfl)) rfl rfl ?_
                          refine zp_icmp (pc := 239) (tgt := 246) hx hb (zd_X6_value (239, .if_icmp .ge 7, 3, 0, []) (List.mem_of_getElem? (i := 130) rfl)) rfl (fun (hc181 : 2 ≤ ((d : Int) + 2)) => ?_) (fun (hc181 : ¬ (2 ≤ ((d : Int) + 2))) => ?_)
                          · refine zp_iinc (L' := [(4, 0, ((d : Int) + 1)), (8, 1, v2), (7, 0, (C (b + 1))), (6, 0, 9), (5, 0, (b : Int)), (0, 2, (a : Int)), (1, 2, (xt9 : Int)), (2, 0, (i2 : Int)), (3, 2, (wd9 : Int))]) (n := ((d : Int) + 1)) (pc := 246) hx hb hnL (zd_X6_value (246, .iinc 4 (-1), 3, 0, []) (List.mem_of_getElem? (i := 133) rfl)) (j := 3) rfl (by omega) (zp_r0 (by omega) (by omega)) rfl rfl ?_
                            refine zp_load (pc := 249) hx hb (zd_X6_value (249, .aload_n 0, 1, 0, []) (List.mem_of_getElem? (i := 134) rfl)) rfl (j := 5) rfl ?_
                            refine zp_getf (n := (st : Int)) (pc := 250) hx hb hE hw (zd_X6_value (250, .getfield 15, 3, 0, []) (List.mem_of_getElem? (i := 135) rfl)) (j := 5) rfl rfl rfl hp hm.1 ?_
                            refine zp_load (pc := 253) hx hb (zd_X6_value (253, .iload 4, 2, 0, []) (List.mem_of_getElem? (i := 136) rfl)) rfl (j := 0) rfl ?_
                            refine zp_const (pc := 255) hx hb (zd_X6_value (255, .iconst 1, 1, 0, []) (List.mem_of_getElem? (i := 137) rfl)) rfl rfl ?_
                            refine zp_sub (n := (d : Int)) (pc := 256) hx hb (zd_X6_value (256, .isub, 1, 0, []) (List.mem_of_getElem? (i := 138) rfl)) (by omega) (zp_r0 (by omega) (by omega)) ?_
                            refine zp_lald (j := d) (v := v1) (pc := 257) hx hb hw (zd_X6_value (257, .laload, 1, 0, []) (List.mem_of_getElem? (i := 139) rfl)) (show zp_ia 2 28 = some (64, 1, 0, (-9223372036854775808), 9223372036854775807) from rfl) qst (by omega) (by omega) e1 ?_
                            refine zp_store (L' := [(10, 1, v1), (4, 0, ((d : Int) + 1)), (8, 1, v2), (7, 0, (C (b + 1))), (6, 0, 9), (5, 0, (b : Int)), (0, 2, (a : Int)), (1, 2, (xt9 : Int)), (2, 0, (i2 : Int)), (3, 2, (wd9 : Int))]) (pc := 258) hx hb hnL (zd_X6_value (258, .lstore 10, 2, 0, []) (List.mem_of_getElem? (i := 140) rfl)) rfl rfl rfl ?_
                            refine zp_load (pc := 260) hx hb (zd_X6_value (260, .iload 6, 2, 0, []) (List.mem_of_getElem? (i := 141) rfl)) rfl (j := 4) rfl ?_
                            refine zp_tin (tgt := 334) (off := 72) (pc := 262) hx hb (zd_X6_value (262, .tableswitch 154 6 12 #[42, 52, 62, 72, 95, 118, 136], 42, 0, []) (List.mem_of_getElem? (i := 142) rfl)) (by decide) (by decide) (by decide) rfl ?_
                            refine zp_load (pc := 334) hx hb (zd_X6_value (334, .lload 8, 2, 0, []) (List.mem_of_getElem? (i := 158) rfl)) rfl (j := 2) rfl ?_
                            refine zp_const (pc := 336) hx hb (zd_X6_value (336, .lconst 0, 1, 0, []) (List.mem_of_getElem? (i := 159) rfl)) rfl rfl ?_
                            refine zp_lcmp (pc := 337) (tgt := 347) hx hb (zd_X6_value (337, .lcmp, 1, 0, []) (List.mem_of_getElem? (i := 160) rfl)) (zd_X6_value (338, .ifCond .ne 9, 3, 0, []) (List.mem_of_getElem? (i := 161) rfl)) rfl (fun (hc183 : ¬ v2 = 0) => ?_) (fun (hc183 : ¬ (¬ v2 = 0)) => ?_)
                            · refine zp_load (pc := 347) hx hb (zd_X6_value (347, .lload 10, 2, 0, []) (List.mem_of_getElem? (i := 164) rfl)) rfl (j := 0) rfl ?_
                              refine zp_load (pc := 349) hx hb (zd_X6_value (349, .lload 8, 2, 0, []) (List.mem_of_getElem? (i := 165) rfl)) rfl (j := 2) rfl ?_
                              refine zp_ldivx (n := (v1.tdiv v2)) (pc := 351) hx hb (zd_X6_value (351, .ldiv, 1, 0, []) (List.mem_of_getElem? (i := 166) rfl)) hn0 rfl (zp_r1 (by have := (zg_divr (b := v2) bd1.1 bd1.2).1; omega) (by have := (zg_divr (b := v2) bd1.1 bd1.2).2; omega)) ?_
                              refine zp_store (L' := [(12, 1, (v1.tdiv v2)), (10, 1, v1), (4, 0, ((d : Int) + 1)), (8, 1, v2), (7, 0, (C (b + 1))), (6, 0, 9), (5, 0, (b : Int)), (0, 2, (a : Int)), (1, 2, (xt9 : Int)), (2, 0, (i2 : Int)), (3, 2, (wd9 : Int))]) (pc := 352) hx hb hnL (zd_X6_value (352, .lstore 12, 2, 0, []) (List.mem_of_getElem? (i := 167) rfl)) rfl rfl rfl ?_
                              refine zp_goto (tgt := 431) (pc := 354) hx hb (zd_X6_value (354, .goto 77, 3, 0, []) (List.mem_of_getElem? (i := 168) rfl)) rfl ?_
                              have hrg9 := zg_divr (b := v2) bd1.1 bd1.2
                              refine zp_load (pc := 431) hx hb (zd_X6_value (431, .lload 12, 2, 0, []) (List.mem_of_getElem? (i := 206) rfl)) rfl (j := 0) rfl ?_
                              refine zp_ldc2 (pc := 433) hx hb hE (zd_X6_value (433, .ldc2_w 89, 3, 0, []) (List.mem_of_getElem? (i := 207) rfl)) (j := 13) rfl ?_
                              refine zp_lcmp (pc := 436) (tgt := 449) hx hb (zd_X6_value (436, .lcmp, 1, 0, []) (List.mem_of_getElem? (i := 208) rfl)) (zd_X6_value (437, .ifCond .gt 12, 3, 0, []) (List.mem_of_getElem? (i := 209) rfl)) rfl (fun (hc184 : 1000000000 < (v1.tdiv v2)) => ?_) (fun (hc184 : ¬ (1000000000 < (v1.tdiv v2))) => ?_)
                              · refine zp_ldc2 (pc := 449) hx hb hE (zd_X6_value (449, .ldc2_w 53, 3, 0, []) (List.mem_of_getElem? (i := 214) rfl)) (j := 12) rfl ?_
                                have hz : x en = none := kb (zg_bnn (fun h => hn0 h.2) (show (v1.tdiv v2) = yd_v 23 v1 v2 from rfl) (by omega))
                                refine zp_lret (pc := 452) (n := (-9000000000)) hx hb hE hQ hU5 rfl (by decide) (zd_X6_value (452, .lreturn, 1, 0, []) (List.mem_of_getElem? (i := 215) rfl)) (j := 0) rfl (zp_o1 (by first | assumption | exact zp_r1 (by omega) (by omega))) ?_
                                rw [hps]
                                exact ⟨rfl, fun v hv => (by rw [hz] at hv; cases hv), fun _ => rfl⟩
                              · refine zp_load (pc := 440) hx hb (zd_X6_value (440, .lload 12, 2, 0, []) (List.mem_of_getElem? (i := 210) rfl)) rfl (j := 0) rfl ?_
                                refine zp_ldc2 (pc := 442) hx hb hE (zd_X6_value (442, .ldc2_w 91, 3, 0, []) (List.mem_of_getElem? (i := 211) rfl)) (j := 14) rfl ?_
                                refine zp_lcmp (pc := 445) (tgt := 453) hx hb (zd_X6_value (445, .lcmp, 1, 0, []) (List.mem_of_getElem? (i := 212) rfl)) (zd_X6_value (446, .ifCond .ge 7, 3, 0, []) (List.mem_of_getElem? (i := 213) rfl)) rfl (fun (hc185 : (-1000000000) ≤ (v1.tdiv v2)) => ?_) (fun (hc185 : ¬ ((-1000000000) ≤ (v1.tdiv v2))) => ?_)
                                · refine zp_load (pc := 453) hx hb (zd_X6_value (453, .aload_n 0, 1, 0, []) (List.mem_of_getElem? (i := 216) rfl)) rfl (j := 7) rfl ?_
                                  refine zp_getf (n := (st : Int)) (pc := 454) hx hb hE hw (zd_X6_value (454, .getfield 15, 3, 0, []) (List.mem_of_getElem? (i := 217) rfl)) (j := 5) rfl rfl rfl hp hm.1 ?_
                                  refine zp_load (pc := 457) hx hb (zd_X6_value (457, .iload 4, 2, 0, []) (List.mem_of_getElem? (i := 218) rfl)) rfl (j := 2) rfl ?_
                                  refine zp_const (pc := 459) hx hb (zd_X6_value (459, .iconst 1, 1, 0, []) (List.mem_of_getElem? (i := 219) rfl)) rfl rfl ?_
                                  refine zp_sub (n := (d : Int)) (pc := 460) hx hb (zd_X6_value (460, .isub, 1, 0, []) (List.mem_of_getElem? (i := 220) rfl)) (by omega) (zp_r0 (by omega) (by omega)) ?_
                                  refine zp_load (pc := 461) hx hb (zd_X6_value (461, .lload 12, 2, 0, []) (List.mem_of_getElem? (i := 221) rfl)) rfl (j := 0) rfl ?_
                                  refine zp_last (j := d) (pc := 463) hx hb hw heff (zd_X6_value (463, .lastore, 1, 0, []) (List.mem_of_getElem? (i := 222) rfl)) (show zp_ia 2 28 = some (64, 1, 0, (-9223372036854775808), 9223372036854775807) from rfl) qst (by omega) (by omega) rfl ?_
                                  refine zp_iinc (L' := [(5, 0, ((b : Int) + 2)), (12, 1, (v1.tdiv v2)), (10, 1, v1), (4, 0, ((d : Int) + 1)), (8, 1, v2), (7, 0, (C (b + 1))), (6, 0, 9), (0, 2, (a : Int)), (1, 2, (xt9 : Int)), (2, 0, (i2 : Int)), (3, 2, (wd9 : Int))]) (n := ((b : Int) + 2)) (pc := 464) hx hb hnL (zd_X6_value (464, .iinc 5 2, 3, 0, []) (List.mem_of_getElem? (i := 223) rfl)) (j := 6) rfl (by omega) (zp_r0 (by omega) (by omega)) rfl rfl ?_
                                  refine zp_goto (tgt := 13) (pc := 467) hx hb (zd_X6_value (467, .goto (-454), 3, 0, []) (List.mem_of_getElem? (i := 224) rfl)) rfl ?_
                                  refine zp_drop (L' := [(4, 0, ((d : Int) + 1)), (5, 0, ((b : Int) + 2)), (0, 2, (a : Int)), (1, 2, (xt9 : Int)), (2, 0, (i2 : Int)), (3, 2, (wd9 : Int))]) (by simp) ?_
                                  exact kk (v1.tdiv v2) _ (zg_bns (fun h => hn0 h.2) (show (v1.tdiv v2) = yd_v 23 v1 v2 from rfl) (by omega) (by omega)) (zgV_s hm n1 n2 n3 n4) (fun j hj => zp_set_ne (Or.inr (by omega))) zp_set_self
                                · refine zp_ldc2 (pc := 449) hx hb hE (zd_X6_value (449, .ldc2_w 53, 3, 0, []) (List.mem_of_getElem? (i := 214) rfl)) (j := 12) rfl ?_
                                  have hz : x en = none := kb (zg_bnn (fun h => hn0 h.2) (show (v1.tdiv v2) = yd_v 23 v1 v2 from rfl) (by omega))
                                  refine zp_lret (pc := 452) (n := (-9000000000)) hx hb hE hQ hU5 rfl (by decide) (zd_X6_value (452, .lreturn, 1, 0, []) (List.mem_of_getElem? (i := 215) rfl)) (j := 0) rfl (zp_o1 (by first | assumption | exact zp_r1 (by omega) (by omega))) ?_
                                  rw [hps]
                                  exact ⟨rfl, fun v hv => (by rw [hz] at hv; cases hv), fun _ => rfl⟩
                            · exfalso
                              omega
                          · exfalso
                            omega
                        · exfalso
                          omega
                    · exfalso
                      omega
                  · exfalso
                    omega
                · exfalso
                  omega
              · exfalso
                omega
  have step_10 : ∀ (b d : Nat) (v1 v2 : Int) (G : Nat → Nat → Int), b < e9 → d + 2 < 64 → zgV a xt9 cd st wd9 N C Wd G → C b = 10 → G st (2000 + d) = v1 → G st (2000 + (d + 1)) = v2 → -2147483648 ≤ v1 ∧ v1 ≤ 2147483648 → -2147483648 ≤ v2 ∧ v2 ≤ 2147483648 → (∀ (v : Int) (G' : Nat → Nat → Int), yd_bn 24 v1 v2 = some v → zgV a xt9 cd st wd9 N C Wd G' → (∀ j, j < d → G' st (2000 + j) = G st (2000 + j)) → G' st (2000 + d) = v → zp_J p l e R s m args below meth c Q w u [] 13 [(4, 0, ((d + 1 : Nat) : Int)), (5, 0, ((b + 2 : Nat) : Int)), (0, 2, (a : Int)), (1, 2, (xt9 : Int)), (2, 0, (i2 : Int)), (3, 2, (wd9 : Int))] [] u.1 G') → (yd_bn 24 v1 v2 = none → x en = none) → zp_J p l e R s m args below meth c Q w u [] 13 [(4, 0, ((d + 2 : Nat) : Int)), (5, 0, ((b : Nat) : Int)), (0, 2, (a : Int)), (1, 2, (xt9 : Int)), (2, 0, (i2 : Int)), (3, 2, (wd9 : Int))] [] u.1 G := by
    clear step_l1 step_l2 exitv step_nt step_b4 step_b5 step_6 step_7 step_8 step_9
    intro b d v1 v2 G hb2 hd hm o1 e1 e2 bd1 bd2 kk kb
    have ho1 : G cd (2000 + b) = 10 := (hm.2.2.2.1 b).trans o1
    refine zp_drop (L' := [(4, 0, ((d : Int) + 2)), (5, 0, (b : Int)), (0, 2, (a : Int)), (1, 2, (xt9 : Int)), (2, 0, (i2 : Int)), (3, 2, (wd9 : Int))]) (by simp <;> omega) ?_
    have h99 : zk_rg 1 (-9000000000) := ⟨by decide, by decide⟩
    by_cases hn1 : v2 = 0
    · have hl13 := hm.2.2.1
      refine zp_load (pc := 13) hx hb (zd_X6_value (13, .iload 5, 2, 0, []) (List.mem_of_getElem? (i := 9) rfl)) rfl (j := 1) rfl ?_
      refine zp_if (pc := 15) (tgt := 470) hx hb (zd_X6_value (15, .ifCond .lt 455, 3, 0, []) (List.mem_of_getElem? (i := 10) rfl)) rfl (fun (hc186 : (b : Int) < 0) => ?_) (fun (hc186 : ¬ ((b : Int) < 0)) => ?_)
      · exfalso
        omega
      · refine zp_load (pc := 18) hx hb (zd_X6_value (18, .iload 5, 2, 0, []) (List.mem_of_getElem? (i := 11) rfl)) rfl (j := 1) rfl ?_
        refine zp_const (pc := 20) hx hb (zd_X6_value (20, .iconst 1, 1, 0, []) (List.mem_of_getElem? (i := 12) rfl)) rfl rfl ?_
        refine zp_add (n := ((b : Int) + 1)) (pc := 21) hx hb (zd_X6_value (21, .iadd, 1, 0, []) (List.mem_of_getElem? (i := 13) rfl)) (by omega) (zp_r0 (by omega) (by omega)) ?_
        refine zp_load (pc := 22) hx hb (zd_X6_value (22, .aload_n 1, 1, 0, []) (List.mem_of_getElem? (i := 14) rfl)) rfl (j := 3) rfl ?_
        refine zp_getf (n := (cd : Int)) (pc := 23) hx hb hE hw (zd_X6_value (23, .getfield 86, 3, 0, []) (List.mem_of_getElem? (i := 15) rfl)) (j := 10) rfl rfl rfl qxt hm.2.1 ?_
        refine zp_alenN (N := N) (pc := 26) hx hb hw (zd_X6_value (26, .arraylength, 1, 0, []) (List.mem_of_getElem? (i := 16) rfl)) qcd ⟨_, rfl, by decide, by decide⟩ hm.2.2.1 ?_
        refine zp_icmp (pc := 27) (tgt := 470) hx hb (zd_X6_value (27, .if_icmp .ge 443, 3, 0, []) (List.mem_of_getElem? (i := 17) rfl)) rfl (fun (hc187 : (N : Int) ≤ ((b : Int) + 1)) => ?_) (fun (hc187 : ¬ ((N : Int) ≤ ((b : Int) + 1))) => ?_)
        · exfalso
          omega
        · refine zp_load (pc := 30) hx hb (zd_X6_value (30, .iload 4, 2, 0, []) (List.mem_of_getElem? (i := 18) rfl)) rfl (j := 0) rfl ?_
          refine zp_const (pc := 32) hx hb (zd_X6_value (32, .bipush 64, 2, 0, []) (List.mem_of_getElem? (i := 19) rfl)) rfl rfl ?_
          refine zp_icmp (pc := 34) (tgt := 470) hx hb (zd_X6_value (34, .if_icmp .ge 436, 3, 0, []) (List.mem_of_getElem? (i := 20) rfl)) rfl (fun (hc188 : 64 ≤ ((d : Int) + 2)) => ?_) (fun (hc188 : ¬ (64 ≤ ((d : Int) + 2))) => ?_)
          · exfalso
            omega
          · refine zp_load (pc := 37) hx hb (zd_X6_value (37, .aload_n 1, 1, 0, []) (List.mem_of_getElem? (i := 21) rfl)) rfl (j := 3) rfl ?_
            refine zp_getf (n := (cd : Int)) (pc := 38) hx hb hE hw (zd_X6_value (38, .getfield 86, 3, 0, []) (List.mem_of_getElem? (i := 22) rfl)) (j := 10) rfl rfl rfl qxt hm.2.1 ?_
            refine zp_load (pc := 41) hx hb (zd_X6_value (41, .iload 5, 2, 0, []) (List.mem_of_getElem? (i := 23) rfl)) rfl (j := 1) rfl ?_
            refine zp_ialdN (j := b) (v := 10) (N := N) (pc := 43) hx hb hw (zd_X6_value (43, .iaload, 1, 0, []) (List.mem_of_getElem? (i := 24) rfl)) (show zp_ia 1 41 = some (0, 0, 0, (-1000000), 1000000) from rfl) ⟨_, rfl, by decide⟩ hm.2.2.1 qcd (by omega) (by omega) ho1 (fun hk189 => ?_)
            have hk189b := zp_int hk189
            refine zp_store (L' := [(6, 0, 10), (4, 0, ((d : Int) + 2)), (5, 0, (b : Int)), (0, 2, (a : Int)), (1, 2, (xt9 : Int)), (2, 0, (i2 : Int)), (3, 2, (wd9 : Int))]) (pc := 44) hx hb hnL (zd_X6_value (44, .istore 6, 2, 0, []) (List.mem_of_getElem? (i := 25) rfl)) rfl rfl rfl ?_
            refine zp_load (pc := 46) hx hb (zd_X6_value (46, .aload_n 1, 1, 0, []) (List.mem_of_getElem? (i := 26) rfl)) rfl (j := 4) rfl ?_
            refine zp_getf (n := (cd : Int)) (pc := 47) hx hb hE hw (zd_X6_value (47, .getfield 86, 3, 0, []) (List.mem_of_getElem? (i := 27) rfl)) (j := 10) rfl rfl rfl qxt hm.2.1 ?_
            refine zp_load (pc := 50) hx hb (zd_X6_value (50, .iload 5, 2, 0, []) (List.mem_of_getElem? (i := 28) rfl)) rfl (j := 2) rfl ?_
            refine zp_const (pc := 52) hx hb (zd_X6_value (52, .iconst 1, 1, 0, []) (List.mem_of_getElem? (i := 29) rfl)) rfl rfl ?_
            refine zp_add (n := ((b : Int) + 1)) (pc := 53) hx hb (zd_X6_value (53, .iadd, 1, 0, []) (List.mem_of_getElem? (i := 30) rfl)) (by omega) (zp_r0 (by omega) (by omega)) ?_
            refine zp_ialdN (j := (b + 1)) (v := (C (b + 1))) (N := N) (pc := 54) hx hb hw (zd_X6_value (54, .iaload, 1, 0, []) (List.mem_of_getElem? (i := 31) rfl)) (show zp_ia 1 41 = some (0, 0, 0, (-1000000), 1000000) from rfl) ⟨_, rfl, by decide⟩ hm.2.2.1 qcd (by omega) (by omega) (hm.2.2.2.1 (b + 1)) (fun hk190 => ?_)
            have hk190b := zp_int hk190
            refine zp_store (L' := [(7, 0, (C (b + 1))), (6, 0, 10), (4, 0, ((d : Int) + 2)), (5, 0, (b : Int)), (0, 2, (a : Int)), (1, 2, (xt9 : Int)), (2, 0, (i2 : Int)), (3, 2, (wd9 : Int))]) (pc := 55) hx hb hnL (zd_X6_value (55, .istore 7, 2, 0, []) (List.mem_of_getElem? (i := 32) rfl)) rfl rfl rfl ?_
            refine zp_load (pc := 57) hx hb (zd_X6_value (57, .iload 6, 2, 0, []) (List.mem_of_getElem? (i := 33) rfl)) rfl (j := 1) rfl ?_
            refine zp_const (pc := 59) hx hb (zd_X6_value (59, .iconst 1, 1, 0, []) (List.mem_of_getElem? (i := 34) rfl)) rfl rfl ?_
            refine zp_icmp (pc := 60) (tgt := 69) hx hb (zd_X6_value (60, .if_icmp .eq 9, 3, 0, []) (List.mem_of_getElem? (i := 35) rfl)) rfl (fun (hc191 : 10 = 1) => ?_) (fun (hc191 : ¬ (10 = 1)) => ?_)
            · exfalso
              omega
            · refine zp_load (pc := 63) hx hb (zd_X6_value (63, .iload 6, 2, 0, []) (List.mem_of_getElem? (i := 36) rfl)) rfl (j := 1) rfl ?_
              refine zp_const (pc := 65) hx hb (zd_X6_value (65, .iconst 2, 1, 0, []) (List.mem_of_getElem? (i := 37) rfl)) rfl rfl ?_
              refine zp_icmp (pc := 66) (tgt := 123) hx hb (zd_X6_value (66, .if_icmp .ne 57, 3, 0, []) (List.mem_of_getElem? (i := 38) rfl)) rfl (fun (hc192 : ¬ 10 = 2) => ?_) (fun (hc192 : ¬ (¬ 10 = 2)) => ?_)
              · refine zp_load (pc := 123) hx hb (zd_X6_value (123, .iload 4, 2, 0, []) (List.mem_of_getElem? (i := 67) rfl)) rfl (j := 2) rfl ?_
                refine zp_const (pc := 125) hx hb (zd_X6_value (125, .iconst 1, 1, 0, []) (List.mem_of_getElem? (i := 68) rfl)) rfl rfl ?_
                refine zp_icmp (pc := 126) (tgt := 133) hx hb (zd_X6_value (126, .if_icmp .ge 7, 3, 0, []) (List.mem_of_getElem? (i := 69) rfl)) rfl (fun (hc193 : 1 ≤ ((d : Int) + 2)) => ?_) (fun (hc193 : ¬ (1 ≤ ((d : Int) + 2))) => ?_)
                · refine zp_load (pc := 133) hx hb (zd_X6_value (133, .aload_n 0, 1, 0, []) (List.mem_of_getElem? (i := 72) rfl)) rfl (j := 4) rfl ?_
                  refine zp_getf (n := (st : Int)) (pc := 134) hx hb hE hw (zd_X6_value (134, .getfield 15, 3, 0, []) (List.mem_of_getElem? (i := 73) rfl)) (j := 5) rfl rfl rfl hp hm.1 ?_
                  refine zp_load (pc := 137) hx hb (zd_X6_value (137, .iload 4, 2, 0, []) (List.mem_of_getElem? (i := 74) rfl)) rfl (j := 2) rfl ?_
                  refine zp_const (pc := 139) hx hb (zd_X6_value (139, .iconst 1, 1, 0, []) (List.mem_of_getElem? (i := 75) rfl)) rfl rfl ?_
                  refine zp_sub (n := ((d : Int) + 1)) (pc := 140) hx hb (zd_X6_value (140, .isub, 1, 0, []) (List.mem_of_getElem? (i := 76) rfl)) (by omega) (zp_r0 (by omega) (by omega)) ?_
                  refine zp_lald (j := (d + 1)) (v := v2) (pc := 141) hx hb hw (zd_X6_value (141, .laload, 1, 0, []) (List.mem_of_getElem? (i := 77) rfl)) (show zp_ia 2 28 = some (64, 1, 0, (-9223372036854775808), 9223372036854775807) from rfl) qst (by omega) (by omega) e2 ?_
                  refine zp_store (L' := [(8, 1, v2), (7, 0, (C (b + 1))), (6, 0, 10), (4, 0, ((d : Int) + 2)), (5, 0, (b : Int)), (0, 2, (a : Int)), (1, 2, (xt9 : Int)), (2, 0, (i2 : Int)), (3, 2, (wd9 : Int))]) (pc := 142) hx hb hnL (zd_X6_value (142, .lstore 8, 2, 0, []) (List.mem_of_getElem? (i := 78) rfl)) rfl rfl rfl ?_
                  refine zp_load (pc := 144) hx hb (zd_X6_value (144, .iload 6, 2, 0, []) (List.mem_of_getElem? (i := 79) rfl)) rfl (j := 2) rfl ?_
                  refine zp_if (pc := 146) (tgt := 152) hx hb (zd_X6_value (146, .ifCond .ne 6, 3, 0, []) (List.mem_of_getElem? (i := 80) rfl)) rfl (fun (hc195 : ¬ 10 = 0) => ?_) (fun (hc195 : ¬ (¬ 10 = 0)) => ?_)
                  · refine zp_load (pc := 152) hx hb (zd_X6_value (152, .iload 6, 2, 0, []) (List.mem_of_getElem? (i := 83) rfl)) rfl (j := 2) rfl ?_
                    refine zp_const (pc := 154) hx hb (zd_X6_value (154, .iconst 3, 1, 0, []) (List.mem_of_getElem? (i := 84) rfl)) rfl rfl ?_
                    refine zp_icmp (pc := 155) (tgt := 174) hx hb (zd_X6_value (155, .if_icmp .ne 19, 3, 0, []) (List.mem_of_getElem? (i := 85) rfl)) rfl (fun (hc196 : ¬ 10 = 3) => ?_) (fun (hc196 : ¬ (¬ 10 = 3)) => ?_)
                    · refine zp_load (pc := 174) hx hb (zd_X6_value (174, .iload 6, 2, 0, []) (List.mem_of_getElem? (i := 96) rfl)) rfl (j := 2) rfl ?_
                      refine zp_const (pc := 176) hx hb (zd_X6_value (176, .iconst 4, 1, 0, []) (List.mem_of_getElem? (i := 97) rfl)) rfl rfl ?_
                      refine zp_icmp (pc := 177) (tgt := 186) hx hb (zd_X6_value (177, .if_icmp .eq 9, 3, 0, []) (List.mem_of_getElem? (i := 98) rfl)) rfl (fun (hc197 : 10 = 4) => ?_) (fun (hc197 : ¬ (10 = 4)) => ?_)
                      · exfalso
                        omega
                      · refine zp_load (pc := 180) hx hb (zd_X6_value (180, .iload 6, 2, 0, []) (List.mem_of_getElem? (i := 99) rfl)) rfl (j := 2) rfl ?_
                        refine zp_const (pc := 182) hx hb (zd_X6_value (182, .iconst 5, 1, 0, []) (List.mem_of_getElem? (i := 100) rfl)) rfl rfl ?_
                        refine zp_icmp (pc := 183) (tgt := 236) hx hb (zd_X6_value (183, .if_icmp .ne 53, 3, 0, []) (List.mem_of_getElem? (i := 101) rfl)) rfl (fun (hc198 : ¬ 10 = 5) => ?_) (fun (hc198 : ¬ (¬ 10 = 5)) => ?_)
                        · refine zp_load (pc := 236) hx hb (zd_X6_value (236, .iload 4, 2, 0, []) (List.mem_of_getElem? (i := 128) rfl)) rfl (j := 3) rfl ?_
                          refine zp_const (pc := 238) hx hb (zd_X6_value (238, .iconst 2, 1, 0, []) (List.mem_of_getElem? (i := 129) rfl)) rfl rfl ?_
                          refine zp_icmp (pc := 239) (tgt := 246) hx hb (zd_X6_value (239, .if_icmp .ge 7, 3, 0, []) (List.mem_of_getElem? (i := 130) rfl)) rfl (fun (hc199 : 2 ≤ ((d : Int) + 2)) => ?_) (fun (hc199 : ¬ (2 ≤ ((d : Int) + 2))) => ?_)
                          · refine zp_iinc (L' := [(4, 0, ((d : Int) + 1)), (8, 1, v2), (7, 0, (C (b + 1))), (6, 0, 10), (5, 0, (b : Int)), (0, 2, (a : Int)), (1, 2, (xt9 : Int)), (2, 0, (i2 : Int)), (3, 2, (wd9 : Int))]) (n := ((d : Int) + 1)) (pc := 246) hx hb hnL (zd_X6_value (246, .iinc 4 (-1), 3, 0, []) (List.mem_of_getElem? (i := 133) rfl)) (j := 3) rfl (by omega) (zp_r0 (by omega) (by omega)) rfl rfl ?_
                            refine zp_load (pc := 249) hx hb (zd_X6_value (249, .aload_n 0, 1, 0, []) (List.mem_of_getElem? (i := 134) rfl)) rfl (j := 5) rfl ?_
                            refine zp_getf (n := (st : Int)) (pc := 250) hx hb hE hw (zd_X6_value (250, .getfield 15, 3, 0, []) (List.mem_of_getElem? (i := 135) rfl)) (j := 5) rfl rfl rfl hp hm.1 ?_
                            refine zp_load (pc := 253) hx hb (zd_X6_value (253, .iload 4, 2, 0, []) (List.mem_of_getElem? (i := 136) rfl)) rfl (j := 0) rfl ?_
                            refine zp_const (pc := 255) hx hb (zd_X6_value (255, .iconst 1, 1, 0, []) (List.mem_of_getElem? (i := 137) rfl)) rfl rfl ?_
                            refine zp_sub (n := (d : Int)) (pc := 256) hx hb (zd_X6_value (256, .isub, 1, 0, []) (List.mem_of_getElem? (i := 138) rfl)) (by omega) (zp_r0 (by omega) (by omega)) ?_
                            refine zp_lald (j := d) (v := v1) (pc := 257) hx hb hw (zd_X6_value (257, .laload, 1, 0, []) (List.mem_of_getElem? (i := 139) rfl)) (show zp_ia 2 28 = some (64, 1, 0, (-9223372036854775808), 9223372036854775807) from rfl) qst (by omega) (by omega) e1 ?_
                            refine zp_store (L' := [(10, 1, v1), (4, 0, ((d : Int) + 1)), (8, 1, v2), (7, 0, (C (b + 1))), (6, 0, 10), (5, 0, (b : Int)), (0, 2, (a : Int)), (1, 2, (xt9 : Int)), (2, 0, (i2 : Int)), (3, 2, (wd9 : Int))]) (pc := 258) hx hb hnL (zd_X6_value (258, .lstore 10, 2, 0, []) (List.mem_of_getElem? (i := 140) rfl)) rfl rfl rfl ?_
                            refine zp_load (pc := 260) hx hb (zd_X6_value (260, .iload 6, 2, 0, []) (List.mem_of_getElem? (i := 141) rfl)) rfl (j := 4) rfl ?_
                            refine zp_tin (tgt := 357) (off := 95) (pc := 262) hx hb (zd_X6_value (262, .tableswitch 154 6 12 #[42, 52, 62, 72, 95, 118, 136], 42, 0, []) (List.mem_of_getElem? (i := 142) rfl)) (by decide) (by decide) (by decide) rfl ?_
                            refine zp_load (pc := 357) hx hb (zd_X6_value (357, .lload 8, 2, 0, []) (List.mem_of_getElem? (i := 169) rfl)) rfl (j := 2) rfl ?_
                            refine zp_const (pc := 359) hx hb (zd_X6_value (359, .lconst 0, 1, 0, []) (List.mem_of_getElem? (i := 170) rfl)) rfl rfl ?_
                            refine zp_lcmp (pc := 360) (tgt := 370) hx hb (zd_X6_value (360, .lcmp, 1, 0, []) (List.mem_of_getElem? (i := 171) rfl)) (zd_X6_value (361, .ifCond .ne 9, 3, 0, []) (List.mem_of_getElem? (i := 172) rfl)) rfl (fun (hc201 : ¬ v2 = 0) => ?_) (fun (hc201 : ¬ (¬ v2 = 0)) => ?_)
                            · exfalso
                              omega
                            · refine zp_ldc2 (pc := 364) hx hb hE (zd_X6_value (364, .ldc2_w 53, 3, 0, []) (List.mem_of_getElem? (i := 173) rfl)) (j := 12) rfl ?_
                              refine zp_goto (tgt := 375) (pc := 367) hx hb (zd_X6_value (367, .goto 8, 3, 0, []) (List.mem_of_getElem? (i := 174) rfl)) rfl ?_
                              refine zp_store (L' := [(12, 1, (-9000000000)), (10, 1, v1), (4, 0, ((d : Int) + 1)), (8, 1, v2), (7, 0, (C (b + 1))), (6, 0, 10), (5, 0, (b : Int)), (0, 2, (a : Int)), (1, 2, (xt9 : Int)), (2, 0, (i2 : Int)), (3, 2, (wd9 : Int))]) (pc := 375) hx hb hnL (zd_X6_value (375, .lstore 12, 2, 0, []) (List.mem_of_getElem? (i := 178) rfl)) rfl rfl rfl ?_
                              refine zp_goto (tgt := 431) (pc := 377) hx hb (zd_X6_value (377, .goto 54, 3, 0, []) (List.mem_of_getElem? (i := 179) rfl)) rfl ?_
                              refine zp_load (pc := 431) hx hb (zd_X6_value (431, .lload 12, 2, 0, []) (List.mem_of_getElem? (i := 206) rfl)) rfl (j := 0) rfl ?_
                              refine zp_ldc2 (pc := 433) hx hb hE (zd_X6_value (433, .ldc2_w 89, 3, 0, []) (List.mem_of_getElem? (i := 207) rfl)) (j := 13) rfl ?_
                              refine zp_lcmp (pc := 436) (tgt := 449) hx hb (zd_X6_value (436, .lcmp, 1, 0, []) (List.mem_of_getElem? (i := 208) rfl)) (zd_X6_value (437, .ifCond .gt 12, 3, 0, []) (List.mem_of_getElem? (i := 209) rfl)) rfl (fun (hc202 : 1000000000 < (-9000000000)) => ?_) (fun (hc202 : ¬ (1000000000 < (-9000000000))) => ?_)
                              · exfalso
                                omega
                              · refine zp_load (pc := 440) hx hb (zd_X6_value (440, .lload 12, 2, 0, []) (List.mem_of_getElem? (i := 210) rfl)) rfl (j := 0) rfl ?_
                                refine zp_ldc2 (pc := 442) hx hb hE (zd_X6_value (442, .ldc2_w 91, 3, 0, []) (List.mem_of_getElem? (i := 211) rfl)) (j := 14) rfl ?_
                                refine zp_lcmp (pc := 445) (tgt := 453) hx hb (zd_X6_value (445, .lcmp, 1, 0, []) (List.mem_of_getElem? (i := 212) rfl)) (zd_X6_value (446, .ifCond .ge 7, 3, 0, []) (List.mem_of_getElem? (i := 213) rfl)) rfl (fun (hc203 : (-1000000000) ≤ (-9000000000)) => ?_) (fun (hc203 : ¬ ((-1000000000) ≤ (-9000000000))) => ?_)
                                · exfalso
                                  omega
                                · refine zp_ldc2 (pc := 449) hx hb hE (zd_X6_value (449, .ldc2_w 53, 3, 0, []) (List.mem_of_getElem? (i := 214) rfl)) (j := 12) rfl ?_
                                  have hz : x en = none := kb (zg_bn0 ⟨by decide, hn1⟩)
                                  refine zp_lret (pc := 452) (n := (-9000000000)) hx hb hE hQ hU5 rfl (by decide) (zd_X6_value (452, .lreturn, 1, 0, []) (List.mem_of_getElem? (i := 215) rfl)) (j := 0) rfl (zp_o1 (by first | assumption | exact zp_r1 (by omega) (by omega))) ?_
                                  rw [hps]
                                  exact ⟨rfl, fun v hv => (by rw [hz] at hv; cases hv), fun _ => rfl⟩
                          · exfalso
                            omega
                        · exfalso
                          omega
                    · exfalso
                      omega
                  · exfalso
                    omega
                · exfalso
                  omega
              · exfalso
                omega
    · have hn0 : v2 ≠ 0 := hn1
      have hl13 := hm.2.2.1
      refine zp_load (pc := 13) hx hb (zd_X6_value (13, .iload 5, 2, 0, []) (List.mem_of_getElem? (i := 9) rfl)) rfl (j := 1) rfl ?_
      refine zp_if (pc := 15) (tgt := 470) hx hb (zd_X6_value (15, .ifCond .lt 455, 3, 0, []) (List.mem_of_getElem? (i := 10) rfl)) rfl (fun (hc204 : (b : Int) < 0) => ?_) (fun (hc204 : ¬ ((b : Int) < 0)) => ?_)
      · exfalso
        omega
      · refine zp_load (pc := 18) hx hb (zd_X6_value (18, .iload 5, 2, 0, []) (List.mem_of_getElem? (i := 11) rfl)) rfl (j := 1) rfl ?_
        refine zp_const (pc := 20) hx hb (zd_X6_value (20, .iconst 1, 1, 0, []) (List.mem_of_getElem? (i := 12) rfl)) rfl rfl ?_
        refine zp_add (n := ((b : Int) + 1)) (pc := 21) hx hb (zd_X6_value (21, .iadd, 1, 0, []) (List.mem_of_getElem? (i := 13) rfl)) (by omega) (zp_r0 (by omega) (by omega)) ?_
        refine zp_load (pc := 22) hx hb (zd_X6_value (22, .aload_n 1, 1, 0, []) (List.mem_of_getElem? (i := 14) rfl)) rfl (j := 3) rfl ?_
        refine zp_getf (n := (cd : Int)) (pc := 23) hx hb hE hw (zd_X6_value (23, .getfield 86, 3, 0, []) (List.mem_of_getElem? (i := 15) rfl)) (j := 10) rfl rfl rfl qxt hm.2.1 ?_
        refine zp_alenN (N := N) (pc := 26) hx hb hw (zd_X6_value (26, .arraylength, 1, 0, []) (List.mem_of_getElem? (i := 16) rfl)) qcd ⟨_, rfl, by decide, by decide⟩ hm.2.2.1 ?_
        refine zp_icmp (pc := 27) (tgt := 470) hx hb (zd_X6_value (27, .if_icmp .ge 443, 3, 0, []) (List.mem_of_getElem? (i := 17) rfl)) rfl (fun (hc205 : (N : Int) ≤ ((b : Int) + 1)) => ?_) (fun (hc205 : ¬ ((N : Int) ≤ ((b : Int) + 1))) => ?_)
        · exfalso
          omega
        · refine zp_load (pc := 30) hx hb (zd_X6_value (30, .iload 4, 2, 0, []) (List.mem_of_getElem? (i := 18) rfl)) rfl (j := 0) rfl ?_
          refine zp_const (pc := 32) hx hb (zd_X6_value (32, .bipush 64, 2, 0, []) (List.mem_of_getElem? (i := 19) rfl)) rfl rfl ?_
          refine zp_icmp (pc := 34) (tgt := 470) hx hb (zd_X6_value (34, .if_icmp .ge 436, 3, 0, []) (List.mem_of_getElem? (i := 20) rfl)) rfl (fun (hc206 : 64 ≤ ((d : Int) + 2)) => ?_) (fun (hc206 : ¬ (64 ≤ ((d : Int) + 2))) => ?_)
          · exfalso
            omega
          · refine zp_load (pc := 37) hx hb (zd_X6_value (37, .aload_n 1, 1, 0, []) (List.mem_of_getElem? (i := 21) rfl)) rfl (j := 3) rfl ?_
            refine zp_getf (n := (cd : Int)) (pc := 38) hx hb hE hw (zd_X6_value (38, .getfield 86, 3, 0, []) (List.mem_of_getElem? (i := 22) rfl)) (j := 10) rfl rfl rfl qxt hm.2.1 ?_
            refine zp_load (pc := 41) hx hb (zd_X6_value (41, .iload 5, 2, 0, []) (List.mem_of_getElem? (i := 23) rfl)) rfl (j := 1) rfl ?_
            refine zp_ialdN (j := b) (v := 10) (N := N) (pc := 43) hx hb hw (zd_X6_value (43, .iaload, 1, 0, []) (List.mem_of_getElem? (i := 24) rfl)) (show zp_ia 1 41 = some (0, 0, 0, (-1000000), 1000000) from rfl) ⟨_, rfl, by decide⟩ hm.2.2.1 qcd (by omega) (by omega) ho1 (fun hk207 => ?_)
            have hk207b := zp_int hk207
            refine zp_store (L' := [(6, 0, 10), (4, 0, ((d : Int) + 2)), (5, 0, (b : Int)), (0, 2, (a : Int)), (1, 2, (xt9 : Int)), (2, 0, (i2 : Int)), (3, 2, (wd9 : Int))]) (pc := 44) hx hb hnL (zd_X6_value (44, .istore 6, 2, 0, []) (List.mem_of_getElem? (i := 25) rfl)) rfl rfl rfl ?_
            refine zp_load (pc := 46) hx hb (zd_X6_value (46, .aload_n 1, 1, 0, []) (List.mem_of_getElem? (i := 26) rfl)) rfl (j := 4) rfl ?_
            refine zp_getf (n := (cd : Int)) (pc := 47) hx hb hE hw (zd_X6_value (47, .getfield 86, 3, 0, []) (List.mem_of_getElem? (i := 27) rfl)) (j := 10) rfl rfl rfl qxt hm.2.1 ?_
            refine zp_load (pc := 50) hx hb (zd_X6_value (50, .iload 5, 2, 0, []) (List.mem_of_getElem? (i := 28) rfl)) rfl (j := 2) rfl ?_
            refine zp_const (pc := 52) hx hb (zd_X6_value (52, .iconst 1, 1, 0, []) (List.mem_of_getElem? (i := 29) rfl)) rfl rfl ?_
            refine zp_add (n := ((b : Int) + 1)) (pc := 53) hx hb (zd_X6_value (53, .iadd, 1, 0, []) (List.mem_of_getElem? (i := 30) rfl)) (by omega) (zp_r0 (by omega) (by omega)) ?_
            refine zp_ialdN (j := (b + 1)) (v := (C (b + 1))) (N := N) (pc := 54) hx hb hw (zd_X6_value (54, .iaload, 1, 0, []) (List.mem_of_getElem? (i := 31) rfl)) (show zp_ia 1 41 = some (0, 0, 0, (-1000000), 1000000) from rfl) ⟨_, rfl, by decide⟩ hm.2.2.1 qcd (by omega) (by omega) (hm.2.2.2.1 (b + 1)) (fun hk208 => ?_)
            have hk208b := zp_int hk208
            refine zp_store (L' := [(7, 0, (C (b + 1))), (6, 0, 10), (4, 0, ((d : Int) + 2)), (5, 0, (b : Int)), (0, 2, (a : Int)), (1, 2, (xt9 : Int)), (2, 0, (i2 : Int)), (3, 2, (wd9 : Int))]) (pc := 55) hx hb hnL (zd_X6_value (55, .istore 7, 2, 0, []) (List.mem_of_getElem? (i := 32) rfl)) rfl rfl rfl ?_
            refine zp_load (pc := 57) hx hb (zd_X6_value (57, .iload 6, 2, 0, []) (List.mem_of_getElem? (i := 33) rfl)) rfl (j := 1) rfl ?_
            refine zp_const (pc := 59) hx hb (zd_X6_value (59, .iconst 1, 1, 0, []) (List.mem_of_getElem? (i := 34) rfl)) rfl rfl ?_
            refine zp_icmp (pc := 60) (tgt := 69) hx hb (zd_X6_value (60, .if_icmp .eq 9, 3, 0, []) (List.mem_of_getElem? (i := 35) rfl)) rfl (fun (hc209 : 10 = 1) => ?_) (fun (hc209 : ¬ (10 = 1)) => ?_)
            · exfalso
              omega
            · refine zp_load (pc := 63) hx hb (zd_X6_value (63, .iload 6, 2, 0, []) (List.mem_of_getElem? (i := 36) rfl)) rfl (j := 1) rfl ?_
              refine zp_const (pc := 65) hx hb (zd_X6_value (65, .iconst 2, 1, 0, []) (List.mem_of_getElem? (i := 37) rfl)) rfl rfl ?_
              refine zp_icmp (pc := 66) (tgt := 123) hx hb (zd_X6_value (66, .if_icmp .ne 57, 3, 0, []) (List.mem_of_getElem? (i := 38) rfl)) rfl (fun (hc210 : ¬ 10 = 2) => ?_) (fun (hc210 : ¬ (¬ 10 = 2)) => ?_)
              · refine zp_load (pc := 123) hx hb (zd_X6_value (123, .iload 4, 2, 0, []) (List.mem_of_getElem? (i := 67) rfl)) rfl (j := 2) rfl ?_
                refine zp_const (pc := 125) hx hb (zd_X6_value (125, .iconst 1, 1, 0, []) (List.mem_of_getElem? (i := 68) rfl)) rfl rfl ?_
                refine zp_icmp (pc := 126) (tgt := 133) hx hb (zd_X6_value (126, .if_icmp .ge 7, 3, 0, []) (List.mem_of_getElem? (i := 69) rfl)) rfl (fun (hc211 : 1 ≤ ((d : Int) + 2)) => ?_) (fun (hc211 : ¬ (1 ≤ ((d : Int) + 2))) => ?_)
                · refine zp_load (pc := 133) hx hb (zd_X6_value (133, .aload_n 0, 1, 0, []) (List.mem_of_getElem? (i := 72) rfl)) rfl (j := 4) rfl ?_
                  refine zp_getf (n := (st : Int)) (pc := 134) hx hb hE hw (zd_X6_value (134, .getfield 15, 3, 0, []) (List.mem_of_getElem? (i := 73) rfl)) (j := 5) rfl rfl rfl hp hm.1 ?_
                  refine zp_load (pc := 137) hx hb (zd_X6_value (137, .iload 4, 2, 0, []) (List.mem_of_getElem? (i := 74) rfl)) rfl (j := 2) rfl ?_
                  refine zp_const (pc := 139) hx hb (zd_X6_value (139, .iconst 1, 1, 0, []) (List.mem_of_getElem? (i := 75) rfl)) rfl rfl ?_
                  refine zp_sub (n := ((d : Int) + 1)) (pc := 140) hx hb (zd_X6_value (140, .isub, 1, 0, []) (List.mem_of_getElem? (i := 76) rfl)) (by omega) (zp_r0 (by omega) (by omega)) ?_
                  refine zp_lald (j := (d + 1)) (v := v2) (pc := 141) hx hb hw (zd_X6_value (141, .laload, 1, 0, []) (List.mem_of_getElem? (i := 77) rfl)) (show zp_ia 2 28 = some (64, 1, 0, (-9223372036854775808), 9223372036854775807) from rfl) qst (by omega) (by omega) e2 ?_
                  refine zp_store (L' := [(8, 1, v2), (7, 0, (C (b + 1))), (6, 0, 10), (4, 0, ((d : Int) + 2)), (5, 0, (b : Int)), (0, 2, (a : Int)), (1, 2, (xt9 : Int)), (2, 0, (i2 : Int)), (3, 2, (wd9 : Int))]) (pc := 142) hx hb hnL (zd_X6_value (142, .lstore 8, 2, 0, []) (List.mem_of_getElem? (i := 78) rfl)) rfl rfl rfl ?_
                  refine zp_load (pc := 144) hx hb (zd_X6_value (144, .iload 6, 2, 0, []) (List.mem_of_getElem? (i := 79) rfl)) rfl (j := 2) rfl ?_
                  refine zp_if (pc := 146) (tgt := 152) hx hb (zd_X6_value (146, .ifCond .ne 6, 3, 0, []) (List.mem_of_getElem? (i := 80) rfl)) rfl (fun (hc213 : ¬ 10 = 0) => ?_) (fun (hc213 : ¬ (¬ 10 = 0)) => ?_)
                  · refine zp_load (pc := 152) hx hb (zd_X6_value (152, .iload 6, 2, 0, []) (List.mem_of_getElem? (i := 83) rfl)) rfl (j := 2) rfl ?_
                    refine zp_const (pc := 154) hx hb (zd_X6_value (154, .iconst 3, 1, 0, []) (List.mem_of_getElem? (i := 84) rfl)) rfl rfl ?_
                    refine zp_icmp (pc := 155) (tgt := 174) hx hb (zd_X6_value (155, .if_icmp .ne 19, 3, 0, []) (List.mem_of_getElem? (i := 85) rfl)) rfl (fun (hc214 : ¬ 10 = 3) => ?_) (fun (hc214 : ¬ (¬ 10 = 3)) => ?_)
                    · refine zp_load (pc := 174) hx hb (zd_X6_value (174, .iload 6, 2, 0, []) (List.mem_of_getElem? (i := 96) rfl)) rfl (j := 2) rfl ?_
                      refine zp_const (pc := 176) hx hb (zd_X6_value (176, .iconst 4, 1, 0, []) (List.mem_of_getElem? (i := 97) rfl)) rfl rfl ?_
                      refine zp_icmp (pc := 177) (tgt := 186) hx hb (zd_X6_value (177, .if_icmp .eq 9, 3, 0, []) (List.mem_of_getElem? (i := 98) rfl)) rfl (fun (hc215 : 10 = 4) => ?_) (fun (hc215 : ¬ (10 = 4)) => ?_)
                      · exfalso
                        omega
                      · refine zp_load (pc := 180) hx hb (zd_X6_value (180, .iload 6, 2, 0, []) (List.mem_of_getElem? (i := 99) rfl)) rfl (j := 2) rfl ?_
                        refine zp_const (pc := 182) hx hb (zd_X6_value (182, .iconst 5, 1, 0, []) (List.mem_of_getElem? (i := 100) rfl)) rfl rfl ?_
                        refine zp_icmp (pc := 183) (tgt := 236) hx hb (zd_X6_value (183, .if_icmp .ne 53, 3, 0, []) (List.mem_of_getElem? (i := 101) rfl)) rfl (fun (hc216 : ¬ 10 = 5) => ?_) (fun (hc216 : ¬ (¬ 10 = 5)) => ?_)
                        · refine zp_load (pc := 236) hx hb (zd_X6_value (236, .iload 4, 2, 0, []) (List.mem_of_getElem? (i := 128) rfl)) rfl (j := 3) rfl ?_
                          refine zp_const (pc := 238) hx hb (zd_X6_value (238, .iconst 2, 1, 0, []) (List.mem_of_getElem? (i := 129) rfl)) rfl rfl ?_
                          refine zp_icmp (pc := 239) (tgt := 246) hx hb (zd_X6_value (239, .if_icmp .ge 7, 3, 0, []) (List.mem_of_getElem? (i := 130) rfl)) rfl (fun (hc217 : 2 ≤ ((d : Int) + 2)) => ?_) (fun (hc217 : ¬ (2 ≤ ((d : Int) + 2))) => ?_)
                          · refine zp_iinc (L' := [(4, 0, ((d : Int) + 1)), (8, 1, v2), (7, 0, (C (b + 1))), (6, 0, 10), (5, 0, (b : Int)), (0, 2, (a : Int)), (1, 2, (xt9 : Int)), (2, 0, (i2 : Int)), (3, 2, (wd9 : Int))]) (n := ((d : Int) + 1)) (pc := 246) hx hb hnL (zd_X6_value (246, .iinc 4 (-1), 3, 0, []) (List.mem_of_getElem? (i := 133) rfl)) (j := 3) rfl (by omega) (zp_r0 (by omega) (by omega)) rfl rfl ?_
                            refine zp_load (pc := 249) hx hb (zd_X6_value (249, .aload_n 0, 1, 0, []) (List.mem_of_getElem? (i := 134) rfl)) rfl (j := 5) rfl ?_
                            refine zp_getf (n := (st : Int)) (pc := 250) hx hb hE hw (zd_X6_value (250, .getfield 15, 3, 0, []) (List.mem_of_getElem? (i := 135) rfl)) (j := 5) rfl rfl rfl hp hm.1 ?_
                            refine zp_load (pc := 253) hx hb (zd_X6_value (253, .iload 4, 2, 0, []) (List.mem_of_getElem? (i := 136) rfl)) rfl (j := 0) rfl ?_
                            refine zp_const (pc := 255) hx hb (zd_X6_value (255, .iconst 1, 1, 0, []) (List.mem_of_getElem? (i := 137) rfl)) rfl rfl ?_
                            refine zp_sub (n := (d : Int)) (pc := 256) hx hb (zd_X6_value (256, .isub, 1, 0, []) (List.mem_of_getElem? (i := 138) rfl)) (by omega) (zp_r0 (by omega) (by omega)) ?_
                            refine zp_lald (j := d) (v := v1) (pc := 257) hx hb hw (zd_X6_value (257, .laload, 1, 0, []) (List.mem_of_getElem? (i := 139) rfl)) (show zp_ia 2 28 = some (64, 1, 0, (-9223372036854775808), 9223372036854775807) from rfl) qst (by omega) (by omega) e1 ?_
                            refine zp_store (L' := [(10, 1, v1), (4, 0, ((d : Int) + 1)), (8, 1, v2), (7, 0, (C (b + 1))), (6, 0, 10), (5, 0, (b : Int)), (0, 2, (a : Int)), (1, 2, (xt9 : Int)), (2, 0, (i2 : Int)), (3, 2, (wd9 : Int))]) (pc := 258) hx hb hnL (zd_X6_value (258, .lstore 10, 2, 0, []) (List.mem_of_getElem? (i := 140) rfl)) rfl rfl rfl ?_
                            refine zp_load (pc := 260) hx hb (zd_X6_value (260, .iload 6, 2, 0, []) (List.mem_of_getElem? (i := 141) rfl)) rfl (j := 4) rfl ?_
                            refine zp_tin (tgt := 357) (off := 95) (pc := 262) hx hb (zd_X6_value (262, .tableswitch 154 6 12 #[42, 52, 62, 72, 95, 118, 136], 42, 0, []) (List.mem_of_getElem? (i := 142) rfl)) (by decide) (by decide) (by decide) rfl ?_
                            refine zp_load (pc := 357) hx hb (zd_X6_value (357, .lload 8, 2, 0, []) (List.mem_of_getElem? (i := 169) rfl)) rfl (j := 2) rfl ?_
                            refine zp_const (pc := 359) hx hb (zd_X6_value (359, .lconst 0, 1, 0, []) (List.mem_of_getElem? (i := 170) rfl)) rfl rfl ?_
                            refine zp_lcmp (pc := 360) (tgt := 370) hx hb (zd_X6_value (360, .lcmp, 1, 0, []) (List.mem_of_getElem? (i := 171) rfl)) (zd_X6_value (361, .ifCond .ne 9, 3, 0, []) (List.mem_of_getElem? (i := 172) rfl)) rfl (fun (hc219 : ¬ v2 = 0) => ?_) (fun (hc219 : ¬ (¬ v2 = 0)) => ?_)
                            · refine zp_load (pc := 370) hx hb (zd_X6_value (370, .lload 10, 2, 0, []) (List.mem_of_getElem? (i := 175) rfl)) rfl (j := 0) rfl ?_
                              refine zp_load (pc := 372) hx hb (zd_X6_value (372, .lload 8, 2, 0, []) (List.mem_of_getElem? (i := 176) rfl)) rfl (j := 2) rfl ?_
                              refine zp_lremx (n := (v1.tmod v2)) (pc := 374) hx hb (zd_X6_value (374, .lrem, 1, 0, []) (List.mem_of_getElem? (i := 177) rfl)) hn0 rfl (zp_r1 (by have := (zg_modr (b := v2) bd1.1 bd1.2).1; omega) (by have := (zg_modr (b := v2) bd1.1 bd1.2).2; omega)) ?_
                              refine zp_store (L' := [(12, 1, (v1.tmod v2)), (10, 1, v1), (4, 0, ((d : Int) + 1)), (8, 1, v2), (7, 0, (C (b + 1))), (6, 0, 10), (5, 0, (b : Int)), (0, 2, (a : Int)), (1, 2, (xt9 : Int)), (2, 0, (i2 : Int)), (3, 2, (wd9 : Int))]) (pc := 375) hx hb hnL (zd_X6_value (375, .lstore 12, 2, 0, []) (List.mem_of_getElem? (i := 178) rfl)) rfl rfl rfl ?_
                              refine zp_goto (tgt := 431) (pc := 377) hx hb (zd_X6_value (377, .goto 54, 3, 0, []) (List.mem_of_getElem? (i := 179) rfl)) rfl ?_
                              have hrg9 := zg_modr (b := v2) bd1.1 bd1.2
                              refine zp_load (pc := 431) hx hb (zd_X6_value (431, .lload 12, 2, 0, []) (List.mem_of_getElem? (i := 206) rfl)) rfl (j := 0) rfl ?_
                              refine zp_ldc2 (pc := 433) hx hb hE (zd_X6_value (433, .ldc2_w 89, 3, 0, []) (List.mem_of_getElem? (i := 207) rfl)) (j := 13) rfl ?_
                              refine zp_lcmp (pc := 436) (tgt := 449) hx hb (zd_X6_value (436, .lcmp, 1, 0, []) (List.mem_of_getElem? (i := 208) rfl)) (zd_X6_value (437, .ifCond .gt 12, 3, 0, []) (List.mem_of_getElem? (i := 209) rfl)) rfl (fun (hc220 : 1000000000 < (v1.tmod v2)) => ?_) (fun (hc220 : ¬ (1000000000 < (v1.tmod v2))) => ?_)
                              · refine zp_ldc2 (pc := 449) hx hb hE (zd_X6_value (449, .ldc2_w 53, 3, 0, []) (List.mem_of_getElem? (i := 214) rfl)) (j := 12) rfl ?_
                                have hz : x en = none := kb (zg_bnn (fun h => hn0 h.2) (show (v1.tmod v2) = yd_v 24 v1 v2 from rfl) (by omega))
                                refine zp_lret (pc := 452) (n := (-9000000000)) hx hb hE hQ hU5 rfl (by decide) (zd_X6_value (452, .lreturn, 1, 0, []) (List.mem_of_getElem? (i := 215) rfl)) (j := 0) rfl (zp_o1 (by first | assumption | exact zp_r1 (by omega) (by omega))) ?_
                                rw [hps]
                                exact ⟨rfl, fun v hv => (by rw [hz] at hv; cases hv), fun _ => rfl⟩
                              · refine zp_load (pc := 440) hx hb (zd_X6_value (440, .lload 12, 2, 0, []) (List.mem_of_getElem? (i := 210) rfl)) rfl (j := 0) rfl ?_
                                refine zp_ldc2 (pc := 442) hx hb hE (zd_X6_value (442, .ldc2_w 91, 3, 0, []) (List.mem_of_getElem? (i := 211) rfl)) (j := 14) rfl ?_
                                refine zp_lcmp (pc := 445) (tgt := 453) hx hb (zd_X6_value (445, .lcmp, 1, 0, []) (List.mem_of_getElem? (i := 212) rfl)) (zd_X6_value (446, .ifCond .ge 7, 3, 0, []) (List.mem_of_getElem? (i := 213) rfl)) rfl (fun (hc221 : (-1000000000) ≤ (v1.tmod v2)) => ?_) (fun (hc221 : ¬ ((-1000000000) ≤ (v1.tmod v2))) => ?_)
                                · refine zp_load (pc := 453) hx hb (zd_X6_value (453, .aload_n 0, 1, 0, []) (List.mem_of_getElem? (i := 216) rfl)) rfl (j := 7) rfl ?_
                                  refine zp_getf (n := (st : Int)) (pc := 454) hx hb hE hw (zd_X6_value (454, .getfield 15, 3, 0, []) (List.mem_of_getElem? (i := 217) rfl)) (j := 5) rfl rfl rfl hp hm.1 ?_
                                  refine zp_load (pc := 457) hx hb (zd_X6_value (457, .iload 4, 2, 0, []) (List.mem_of_getElem? (i := 218) rfl)) rfl (j := 2) rfl ?_
                                  refine zp_const (pc := 459) hx hb (zd_X6_value (459, .iconst 1, 1, 0, []) (List.mem_of_getElem? (i := 219) rfl)) rfl rfl ?_
                                  refine zp_sub (n := (d : Int)) (pc := 460) hx hb (zd_X6_value (460, .isub, 1, 0, []) (List.mem_of_getElem? (i := 220) rfl)) (by omega) (zp_r0 (by omega) (by omega)) ?_
                                  refine zp_load (pc := 461) hx hb (zd_X6_value (461, .lload 12, 2, 0, []) (List.mem_of_getElem? (i := 221) rfl)) rfl (j := 0) rfl ?_
                                  refine zp_last (j := d) (pc := 463) hx hb hw heff (zd_X6_value (463, .lastore, 1, 0, []) (List.mem_of_getElem? (i := 222) rfl)) (show zp_ia 2 28 = some (64, 1, 0, (-9223372036854775808), 9223372036854775807) from rfl) qst (by omega) (by omega) rfl ?_
                                  refine zp_iinc (L' := [(5, 0, ((b : Int) + 2)), (12, 1, (v1.tmod v2)), (10, 1, v1), (4, 0, ((d : Int) + 1)), (8, 1, v2), (7, 0, (C (b + 1))), (6, 0, 10), (0, 2, (a : Int)), (1, 2, (xt9 : Int)), (2, 0, (i2 : Int)), (3, 2, (wd9 : Int))]) (n := ((b : Int) + 2)) (pc := 464) hx hb hnL (zd_X6_value (464, .iinc 5 2, 3, 0, []) (List.mem_of_getElem? (i := 223) rfl)) (j := 6) rfl (by omega) (zp_r0 (by omega) (by omega)) rfl rfl ?_
                                  refine zp_goto (tgt := 13) (pc := 467) hx hb (zd_X6_value (467, .goto (-454), 3, 0, []) (List.mem_of_getElem? (i := 224) rfl)) rfl ?_
                                  refine zp_drop (L' := [(4, 0, ((d : Int) + 1)), (5, 0, ((b : Int) + 2)), (0, 2, (a : Int)), (1, 2, (xt9 : Int)), (2, 0, (i2 : Int)), (3, 2, (wd9 : Int))]) (by simp) ?_
                                  exact kk (v1.tmod v2) _ (zg_bns (fun h => hn0 h.2) (show (v1.tmod v2) = yd_v 24 v1 v2 from rfl) (by omega) (by omega)) (zgV_s hm n1 n2 n3 n4) (fun j hj => zp_set_ne (Or.inr (by omega))) zp_set_self
                                · refine zp_ldc2 (pc := 449) hx hb hE (zd_X6_value (449, .ldc2_w 53, 3, 0, []) (List.mem_of_getElem? (i := 214) rfl)) (j := 12) rfl ?_
                                  have hz : x en = none := kb (zg_bnn (fun h => hn0 h.2) (show (v1.tmod v2) = yd_v 24 v1 v2 from rfl) (by omega))
                                  refine zp_lret (pc := 452) (n := (-9000000000)) hx hb hE hQ hU5 rfl (by decide) (zd_X6_value (452, .lreturn, 1, 0, []) (List.mem_of_getElem? (i := 215) rfl)) (j := 0) rfl (zp_o1 (by first | assumption | exact zp_r1 (by omega) (by omega))) ?_
                                  rw [hps]
                                  exact ⟨rfl, fun v hv => (by rw [hz] at hv; cases hv), fun _ => rfl⟩
                            · exfalso
                              omega
                          · exfalso
                            omega
                        · exfalso
                          omega
                    · exfalso
                      omega
                  · exfalso
                    omega
                · exfalso
                  omega
              · exfalso
                omega
  have step_11 : ∀ (b d : Nat) (v1 v2 : Int) (G : Nat → Nat → Int), b < e9 → d + 2 < 64 → zgV a xt9 cd st wd9 N C Wd G → C b = 11 → G st (2000 + d) = v1 → G st (2000 + (d + 1)) = v2 → -2147483648 ≤ v1 ∧ v1 ≤ 2147483648 → -2147483648 ≤ v2 ∧ v2 ≤ 2147483648 → (∀ (v : Int) (G' : Nat → Nat → Int), yd_bn 25 v1 v2 = some v → zgV a xt9 cd st wd9 N C Wd G' → (∀ j, j < d → G' st (2000 + j) = G st (2000 + j)) → G' st (2000 + d) = v → zp_J p l e R s m args below meth c Q w u [] 13 [(4, 0, ((d + 1 : Nat) : Int)), (5, 0, ((b + 2 : Nat) : Int)), (0, 2, (a : Int)), (1, 2, (xt9 : Int)), (2, 0, (i2 : Int)), (3, 2, (wd9 : Int))] [] u.1 G') → (yd_bn 25 v1 v2 = none → x en = none) → zp_J p l e R s m args below meth c Q w u [] 13 [(4, 0, ((d + 2 : Nat) : Int)), (5, 0, ((b : Nat) : Int)), (0, 2, (a : Int)), (1, 2, (xt9 : Int)), (2, 0, (i2 : Int)), (3, 2, (wd9 : Int))] [] u.1 G := by
    clear step_l1 step_l2 exitv step_nt step_b4 step_b5 step_6 step_7 step_8 step_9 step_10
    intro b d v1 v2 G hb2 hd hm o1 e1 e2 bd1 bd2 kk kb
    have ho1 : G cd (2000 + b) = 11 := (hm.2.2.2.1 b).trans o1
    refine zp_drop (L' := [(4, 0, ((d : Int) + 2)), (5, 0, (b : Int)), (0, 2, (a : Int)), (1, 2, (xt9 : Int)), (2, 0, (i2 : Int)), (3, 2, (wd9 : Int))]) (by simp <;> omega) ?_
    have h99 : zk_rg 1 (-9000000000) := ⟨by decide, by decide⟩
    have hl13 := hm.2.2.1
    refine zp_load (pc := 13) hx hb (zd_X6_value (13, .iload 5, 2, 0, []) (List.mem_of_getElem? (i := 9) rfl)) rfl (j := 1) rfl ?_
    refine zp_if (pc := 15) (tgt := 470) hx hb (zd_X6_value (15, .ifCond .lt 455, 3, 0, []) (List.mem_of_getElem? (i := 10) rfl)) rfl (fun (hc222 : (b : Int) < 0) => ?_) (fun (hc222 : ¬ ((b : Int) < 0)) => ?_)
    · exfalso
      omega
    · refine zp_load (pc := 18) hx hb (zd_X6_value (18, .iload 5, 2, 0, []) (List.mem_of_getElem? (i := 11) rfl)) rfl (j := 1) rfl ?_
      refine zp_const (pc := 20) hx hb (zd_X6_value (20, .iconst 1, 1, 0, []) (List.mem_of_getElem? (i := 12) rfl)) rfl rfl ?_
      refine zp_add (n := ((b : Int) + 1)) (pc := 21) hx hb (zd_X6_value (21, .iadd, 1, 0, []) (List.mem_of_getElem? (i := 13) rfl)) (by omega) (zp_r0 (by omega) (by omega)) ?_
      refine zp_load (pc := 22) hx hb (zd_X6_value (22, .aload_n 1, 1, 0, []) (List.mem_of_getElem? (i := 14) rfl)) rfl (j := 3) rfl ?_
      refine zp_getf (n := (cd : Int)) (pc := 23) hx hb hE hw (zd_X6_value (23, .getfield 86, 3, 0, []) (List.mem_of_getElem? (i := 15) rfl)) (j := 10) rfl rfl rfl qxt hm.2.1 ?_
      refine zp_alenN (N := N) (pc := 26) hx hb hw (zd_X6_value (26, .arraylength, 1, 0, []) (List.mem_of_getElem? (i := 16) rfl)) qcd ⟨_, rfl, by decide, by decide⟩ hm.2.2.1 ?_
      refine zp_icmp (pc := 27) (tgt := 470) hx hb (zd_X6_value (27, .if_icmp .ge 443, 3, 0, []) (List.mem_of_getElem? (i := 17) rfl)) rfl (fun (hc223 : (N : Int) ≤ ((b : Int) + 1)) => ?_) (fun (hc223 : ¬ ((N : Int) ≤ ((b : Int) + 1))) => ?_)
      · exfalso
        omega
      · refine zp_load (pc := 30) hx hb (zd_X6_value (30, .iload 4, 2, 0, []) (List.mem_of_getElem? (i := 18) rfl)) rfl (j := 0) rfl ?_
        refine zp_const (pc := 32) hx hb (zd_X6_value (32, .bipush 64, 2, 0, []) (List.mem_of_getElem? (i := 19) rfl)) rfl rfl ?_
        refine zp_icmp (pc := 34) (tgt := 470) hx hb (zd_X6_value (34, .if_icmp .ge 436, 3, 0, []) (List.mem_of_getElem? (i := 20) rfl)) rfl (fun (hc224 : 64 ≤ ((d : Int) + 2)) => ?_) (fun (hc224 : ¬ (64 ≤ ((d : Int) + 2))) => ?_)
        · exfalso
          omega
        · refine zp_load (pc := 37) hx hb (zd_X6_value (37, .aload_n 1, 1, 0, []) (List.mem_of_getElem? (i := 21) rfl)) rfl (j := 3) rfl ?_
          refine zp_getf (n := (cd : Int)) (pc := 38) hx hb hE hw (zd_X6_value (38, .getfield 86, 3, 0, []) (List.mem_of_getElem? (i := 22) rfl)) (j := 10) rfl rfl rfl qxt hm.2.1 ?_
          refine zp_load (pc := 41) hx hb (zd_X6_value (41, .iload 5, 2, 0, []) (List.mem_of_getElem? (i := 23) rfl)) rfl (j := 1) rfl ?_
          refine zp_ialdN (j := b) (v := 11) (N := N) (pc := 43) hx hb hw (zd_X6_value (43, .iaload, 1, 0, []) (List.mem_of_getElem? (i := 24) rfl)) (show zp_ia 1 41 = some (0, 0, 0, (-1000000), 1000000) from rfl) ⟨_, rfl, by decide⟩ hm.2.2.1 qcd (by omega) (by omega) ho1 (fun hk225 => ?_)
          have hk225b := zp_int hk225
          refine zp_store (L' := [(6, 0, 11), (4, 0, ((d : Int) + 2)), (5, 0, (b : Int)), (0, 2, (a : Int)), (1, 2, (xt9 : Int)), (2, 0, (i2 : Int)), (3, 2, (wd9 : Int))]) (pc := 44) hx hb hnL (zd_X6_value (44, .istore 6, 2, 0, []) (List.mem_of_getElem? (i := 25) rfl)) rfl rfl rfl ?_
          refine zp_load (pc := 46) hx hb (zd_X6_value (46, .aload_n 1, 1, 0, []) (List.mem_of_getElem? (i := 26) rfl)) rfl (j := 4) rfl ?_
          refine zp_getf (n := (cd : Int)) (pc := 47) hx hb hE hw (zd_X6_value (47, .getfield 86, 3, 0, []) (List.mem_of_getElem? (i := 27) rfl)) (j := 10) rfl rfl rfl qxt hm.2.1 ?_
          refine zp_load (pc := 50) hx hb (zd_X6_value (50, .iload 5, 2, 0, []) (List.mem_of_getElem? (i := 28) rfl)) rfl (j := 2) rfl ?_
          refine zp_const (pc := 52) hx hb (zd_X6_value (52, .iconst 1, 1, 0, []) (List.mem_of_getElem? (i := 29) rfl)) rfl rfl ?_
          refine zp_add (n := ((b : Int) + 1)) (pc := 53) hx hb (zd_X6_value (53, .iadd, 1, 0, []) (List.mem_of_getElem? (i := 30) rfl)) (by omega) (zp_r0 (by omega) (by omega)) ?_
          refine zp_ialdN (j := (b + 1)) (v := (C (b + 1))) (N := N) (pc := 54) hx hb hw (zd_X6_value (54, .iaload, 1, 0, []) (List.mem_of_getElem? (i := 31) rfl)) (show zp_ia 1 41 = some (0, 0, 0, (-1000000), 1000000) from rfl) ⟨_, rfl, by decide⟩ hm.2.2.1 qcd (by omega) (by omega) (hm.2.2.2.1 (b + 1)) (fun hk226 => ?_)
          have hk226b := zp_int hk226
          refine zp_store (L' := [(7, 0, (C (b + 1))), (6, 0, 11), (4, 0, ((d : Int) + 2)), (5, 0, (b : Int)), (0, 2, (a : Int)), (1, 2, (xt9 : Int)), (2, 0, (i2 : Int)), (3, 2, (wd9 : Int))]) (pc := 55) hx hb hnL (zd_X6_value (55, .istore 7, 2, 0, []) (List.mem_of_getElem? (i := 32) rfl)) rfl rfl rfl ?_
          refine zp_load (pc := 57) hx hb (zd_X6_value (57, .iload 6, 2, 0, []) (List.mem_of_getElem? (i := 33) rfl)) rfl (j := 1) rfl ?_
          refine zp_const (pc := 59) hx hb (zd_X6_value (59, .iconst 1, 1, 0, []) (List.mem_of_getElem? (i := 34) rfl)) rfl rfl ?_
          refine zp_icmp (pc := 60) (tgt := 69) hx hb (zd_X6_value (60, .if_icmp .eq 9, 3, 0, []) (List.mem_of_getElem? (i := 35) rfl)) rfl (fun (hc227 : 11 = 1) => ?_) (fun (hc227 : ¬ (11 = 1)) => ?_)
          · exfalso
            omega
          · refine zp_load (pc := 63) hx hb (zd_X6_value (63, .iload 6, 2, 0, []) (List.mem_of_getElem? (i := 36) rfl)) rfl (j := 1) rfl ?_
            refine zp_const (pc := 65) hx hb (zd_X6_value (65, .iconst 2, 1, 0, []) (List.mem_of_getElem? (i := 37) rfl)) rfl rfl ?_
            refine zp_icmp (pc := 66) (tgt := 123) hx hb (zd_X6_value (66, .if_icmp .ne 57, 3, 0, []) (List.mem_of_getElem? (i := 38) rfl)) rfl (fun (hc228 : ¬ 11 = 2) => ?_) (fun (hc228 : ¬ (¬ 11 = 2)) => ?_)
            · refine zp_load (pc := 123) hx hb (zd_X6_value (123, .iload 4, 2, 0, []) (List.mem_of_getElem? (i := 67) rfl)) rfl (j := 2) rfl ?_
              refine zp_const (pc := 125) hx hb (zd_X6_value (125, .iconst 1, 1, 0, []) (List.mem_of_getElem? (i := 68) rfl)) rfl rfl ?_
              refine zp_icmp (pc := 126) (tgt := 133) hx hb (zd_X6_value (126, .if_icmp .ge 7, 3, 0, []) (List.mem_of_getElem? (i := 69) rfl)) rfl (fun (hc229 : 1 ≤ ((d : Int) + 2)) => ?_) (fun (hc229 : ¬ (1 ≤ ((d : Int) + 2))) => ?_)
              · refine zp_load (pc := 133) hx hb (zd_X6_value (133, .aload_n 0, 1, 0, []) (List.mem_of_getElem? (i := 72) rfl)) rfl (j := 4) rfl ?_
                refine zp_getf (n := (st : Int)) (pc := 134) hx hb hE hw (zd_X6_value (134, .getfield 15, 3, 0, []) (List.mem_of_getElem? (i := 73) rfl)) (j := 5) rfl rfl rfl hp hm.1 ?_
                refine zp_load (pc := 137) hx hb (zd_X6_value (137, .iload 4, 2, 0, []) (List.mem_of_getElem? (i := 74) rfl)) rfl (j := 2) rfl ?_
                refine zp_const (pc := 139) hx hb (zd_X6_value (139, .iconst 1, 1, 0, []) (List.mem_of_getElem? (i := 75) rfl)) rfl rfl ?_
                refine zp_sub (n := ((d : Int) + 1)) (pc := 140) hx hb (zd_X6_value (140, .isub, 1, 0, []) (List.mem_of_getElem? (i := 76) rfl)) (by omega) (zp_r0 (by omega) (by omega)) ?_
                refine zp_lald (j := (d + 1)) (v := v2) (pc := 141) hx hb hw (zd_X6_value (141, .laload, 1, 0, []) (List.mem_of_getElem? (i := 77) rfl)) (show zp_ia 2 28 = some (64, 1, 0, (-9223372036854775808), 9223372036854775807) from rfl) qst (by omega) (by omega) e2 ?_
                refine zp_store (L' := [(8, 1, v2), (7, 0, (C (b + 1))), (6, 0, 11), (4, 0, ((d : Int) + 2)), (5, 0, (b : Int)), (0, 2, (a : Int)), (1, 2, (xt9 : Int)), (2, 0, (i2 : Int)), (3, 2, (wd9 : Int))]) (pc := 142) hx hb hnL (zd_X6_value (142, .lstore 8, 2, 0, []) (List.mem_of_getElem? (i := 78) rfl)) rfl rfl rfl ?_
                refine zp_load (pc := 144) hx hb (zd_X6_value (144, .iload 6, 2, 0, []) (List.mem_of_getElem? (i := 79) rfl)) rfl (j := 2) rfl ?_
                refine zp_if (pc := 146) (tgt := 152) hx hb (zd_X6_value (146, .ifCond .ne 6, 3, 0, []) (List.mem_of_getElem? (i := 80) rfl)) rfl (fun (hc231 : ¬ 11 = 0) => ?_) (fun (hc231 : ¬ (¬ 11 = 0)) => ?_)
                · refine zp_load (pc := 152) hx hb (zd_X6_value (152, .iload 6, 2, 0, []) (List.mem_of_getElem? (i := 83) rfl)) rfl (j := 2) rfl ?_
                  refine zp_const (pc := 154) hx hb (zd_X6_value (154, .iconst 3, 1, 0, []) (List.mem_of_getElem? (i := 84) rfl)) rfl rfl ?_
                  refine zp_icmp (pc := 155) (tgt := 174) hx hb (zd_X6_value (155, .if_icmp .ne 19, 3, 0, []) (List.mem_of_getElem? (i := 85) rfl)) rfl (fun (hc232 : ¬ 11 = 3) => ?_) (fun (hc232 : ¬ (¬ 11 = 3)) => ?_)
                  · refine zp_load (pc := 174) hx hb (zd_X6_value (174, .iload 6, 2, 0, []) (List.mem_of_getElem? (i := 96) rfl)) rfl (j := 2) rfl ?_
                    refine zp_const (pc := 176) hx hb (zd_X6_value (176, .iconst 4, 1, 0, []) (List.mem_of_getElem? (i := 97) rfl)) rfl rfl ?_
                    refine zp_icmp (pc := 177) (tgt := 186) hx hb (zd_X6_value (177, .if_icmp .eq 9, 3, 0, []) (List.mem_of_getElem? (i := 98) rfl)) rfl (fun (hc233 : 11 = 4) => ?_) (fun (hc233 : ¬ (11 = 4)) => ?_)
                    · exfalso
                      omega
                    · refine zp_load (pc := 180) hx hb (zd_X6_value (180, .iload 6, 2, 0, []) (List.mem_of_getElem? (i := 99) rfl)) rfl (j := 2) rfl ?_
                      refine zp_const (pc := 182) hx hb (zd_X6_value (182, .iconst 5, 1, 0, []) (List.mem_of_getElem? (i := 100) rfl)) rfl rfl ?_
                      refine zp_icmp (pc := 183) (tgt := 236) hx hb (zd_X6_value (183, .if_icmp .ne 53, 3, 0, []) (List.mem_of_getElem? (i := 101) rfl)) rfl (fun (hc234 : ¬ 11 = 5) => ?_) (fun (hc234 : ¬ (¬ 11 = 5)) => ?_)
                      · refine zp_load (pc := 236) hx hb (zd_X6_value (236, .iload 4, 2, 0, []) (List.mem_of_getElem? (i := 128) rfl)) rfl (j := 3) rfl ?_
                        refine zp_const (pc := 238) hx hb (zd_X6_value (238, .iconst 2, 1, 0, []) (List.mem_of_getElem? (i := 129) rfl)) rfl rfl ?_
                        refine zp_icmp (pc := 239) (tgt := 246) hx hb (zd_X6_value (239, .if_icmp .ge 7, 3, 0, []) (List.mem_of_getElem? (i := 130) rfl)) rfl (fun (hc235 : 2 ≤ ((d : Int) + 2)) => ?_) (fun (hc235 : ¬ (2 ≤ ((d : Int) + 2))) => ?_)
                        · refine zp_iinc (L' := [(4, 0, ((d : Int) + 1)), (8, 1, v2), (7, 0, (C (b + 1))), (6, 0, 11), (5, 0, (b : Int)), (0, 2, (a : Int)), (1, 2, (xt9 : Int)), (2, 0, (i2 : Int)), (3, 2, (wd9 : Int))]) (n := ((d : Int) + 1)) (pc := 246) hx hb hnL (zd_X6_value (246, .iinc 4 (-1), 3, 0, []) (List.mem_of_getElem? (i := 133) rfl)) (j := 3) rfl (by omega) (zp_r0 (by omega) (by omega)) rfl rfl ?_
                          refine zp_load (pc := 249) hx hb (zd_X6_value (249, .aload_n 0, 1, 0, []) (List.mem_of_getElem? (i := 134) rfl)) rfl (j := 5) rfl ?_
                          refine zp_getf (n := (st : Int)) (pc := 250) hx hb hE hw (zd_X6_value (250, .getfield 15, 3, 0, []) (List.mem_of_getElem? (i := 135) rfl)) (j := 5) rfl rfl rfl hp hm.1 ?_
                          refine zp_load (pc := 253) hx hb (zd_X6_value (253, .iload 4, 2, 0, []) (List.mem_of_getElem? (i := 136) rfl)) rfl (j := 0) rfl ?_
                          refine zp_const (pc := 255) hx hb (zd_X6_value (255, .iconst 1, 1, 0, []) (List.mem_of_getElem? (i := 137) rfl)) rfl rfl ?_
                          refine zp_sub (n := (d : Int)) (pc := 256) hx hb (zd_X6_value (256, .isub, 1, 0, []) (List.mem_of_getElem? (i := 138) rfl)) (by omega) (zp_r0 (by omega) (by omega)) ?_
                          refine zp_lald (j := d) (v := v1) (pc := 257) hx hb hw (zd_X6_value (257, .laload, 1, 0, []) (List.mem_of_getElem? (i := 139) rfl)) (show zp_ia 2 28 = some (64, 1, 0, (-9223372036854775808), 9223372036854775807) from rfl) qst (by omega) (by omega) e1 ?_
                          refine zp_store (L' := [(10, 1, v1), (4, 0, ((d : Int) + 1)), (8, 1, v2), (7, 0, (C (b + 1))), (6, 0, 11), (5, 0, (b : Int)), (0, 2, (a : Int)), (1, 2, (xt9 : Int)), (2, 0, (i2 : Int)), (3, 2, (wd9 : Int))]) (pc := 258) hx hb hnL (zd_X6_value (258, .lstore 10, 2, 0, []) (List.mem_of_getElem? (i := 140) rfl)) rfl rfl rfl ?_
                          refine zp_load (pc := 260) hx hb (zd_X6_value (260, .iload 6, 2, 0, []) (List.mem_of_getElem? (i := 141) rfl)) rfl (j := 4) rfl ?_
                          refine zp_tin (tgt := 380) (off := 118) (pc := 262) hx hb (zd_X6_value (262, .tableswitch 154 6 12 #[42, 52, 62, 72, 95, 118, 136], 42, 0, []) (List.mem_of_getElem? (i := 142) rfl)) (by decide) (by decide) (by decide) rfl ?_
                          refine zp_load (pc := 380) hx hb (zd_X6_value (380, .lload 10, 2, 0, []) (List.mem_of_getElem? (i := 180) rfl)) rfl (j := 0) rfl ?_
                          refine zp_load (pc := 382) hx hb (zd_X6_value (382, .lload 8, 2, 0, []) (List.mem_of_getElem? (i := 181) rfl)) rfl (j := 2) rfl ?_
                          refine zp_lcmp (pc := 384) (tgt := 392) hx hb (zd_X6_value (384, .lcmp, 1, 0, []) (List.mem_of_getElem? (i := 182) rfl)) (zd_X6_value (385, .ifCond .ge 7, 3, 0, []) (List.mem_of_getElem? (i := 183) rfl)) rfl (fun (hc237 : v2 ≤ v1) => ?_) (fun (hc237 : ¬ (v2 ≤ v1)) => ?_)
                          · refine zp_const (pc := 392) hx hb (zd_X6_value (392, .lconst 0, 1, 0, []) (List.mem_of_getElem? (i := 186) rfl)) rfl rfl ?_
                            refine zp_store (L' := [(12, 1, 0), (10, 1, v1), (4, 0, ((d : Int) + 1)), (8, 1, v2), (7, 0, (C (b + 1))), (6, 0, 11), (5, 0, (b : Int)), (0, 2, (a : Int)), (1, 2, (xt9 : Int)), (2, 0, (i2 : Int)), (3, 2, (wd9 : Int))]) (pc := 393) hx hb hnL (zd_X6_value (393, .lstore 12, 2, 0, []) (List.mem_of_getElem? (i := 187) rfl)) rfl rfl rfl ?_
                            refine zp_goto (tgt := 431) (pc := 395) hx hb (zd_X6_value (395, .goto 36, 3, 0, []) (List.mem_of_getElem? (i := 188) rfl)) rfl ?_
                            refine zp_load (pc := 431) hx hb (zd_X6_value (431, .lload 12, 2, 0, []) (List.mem_of_getElem? (i := 206) rfl)) rfl (j := 0) rfl ?_
                            refine zp_ldc2 (pc := 433) hx hb hE (zd_X6_value (433, .ldc2_w 89, 3, 0, []) (List.mem_of_getElem? (i := 207) rfl)) (j := 13) rfl ?_
                            refine zp_lcmp (pc := 436) (tgt := 449) hx hb (zd_X6_value (436, .lcmp, 1, 0, []) (List.mem_of_getElem? (i := 208) rfl)) (zd_X6_value (437, .ifCond .gt 12, 3, 0, []) (List.mem_of_getElem? (i := 209) rfl)) rfl (fun (hc238 : 1000000000 < 0) => ?_) (fun (hc238 : ¬ (1000000000 < 0)) => ?_)
                            · exfalso
                              omega
                            · refine zp_load (pc := 440) hx hb (zd_X6_value (440, .lload 12, 2, 0, []) (List.mem_of_getElem? (i := 210) rfl)) rfl (j := 0) rfl ?_
                              refine zp_ldc2 (pc := 442) hx hb hE (zd_X6_value (442, .ldc2_w 91, 3, 0, []) (List.mem_of_getElem? (i := 211) rfl)) (j := 14) rfl ?_
                              refine zp_lcmp (pc := 445) (tgt := 453) hx hb (zd_X6_value (445, .lcmp, 1, 0, []) (List.mem_of_getElem? (i := 212) rfl)) (zd_X6_value (446, .ifCond .ge 7, 3, 0, []) (List.mem_of_getElem? (i := 213) rfl)) rfl (fun (hc239 : (-1000000000) ≤ 0) => ?_) (fun (hc239 : ¬ ((-1000000000) ≤ 0)) => ?_)
                              · refine zp_load (pc := 453) hx hb (zd_X6_value (453, .aload_n 0, 1, 0, []) (List.mem_of_getElem? (i := 216) rfl)) rfl (j := 7) rfl ?_
                                refine zp_getf (n := (st : Int)) (pc := 454) hx hb hE hw (zd_X6_value (454, .getfield 15, 3, 0, []) (List.mem_of_getElem? (i := 217) rfl)) (j := 5) rfl rfl rfl hp hm.1 ?_
                                refine zp_load (pc := 457) hx hb (zd_X6_value (457, .iload 4, 2, 0, []) (List.mem_of_getElem? (i := 218) rfl)) rfl (j := 2) rfl ?_
                                refine zp_const (pc := 459) hx hb (zd_X6_value (459, .iconst 1, 1, 0, []) (List.mem_of_getElem? (i := 219) rfl)) rfl rfl ?_
                                refine zp_sub (n := (d : Int)) (pc := 460) hx hb (zd_X6_value (460, .isub, 1, 0, []) (List.mem_of_getElem? (i := 220) rfl)) (by omega) (zp_r0 (by omega) (by omega)) ?_
                                refine zp_load (pc := 461) hx hb (zd_X6_value (461, .lload 12, 2, 0, []) (List.mem_of_getElem? (i := 221) rfl)) rfl (j := 0) rfl ?_
                                refine zp_last (j := d) (pc := 463) hx hb hw heff (zd_X6_value (463, .lastore, 1, 0, []) (List.mem_of_getElem? (i := 222) rfl)) (show zp_ia 2 28 = some (64, 1, 0, (-9223372036854775808), 9223372036854775807) from rfl) qst (by omega) (by omega) rfl ?_
                                refine zp_iinc (L' := [(5, 0, ((b : Int) + 2)), (12, 1, 0), (10, 1, v1), (4, 0, ((d : Int) + 1)), (8, 1, v2), (7, 0, (C (b + 1))), (6, 0, 11), (0, 2, (a : Int)), (1, 2, (xt9 : Int)), (2, 0, (i2 : Int)), (3, 2, (wd9 : Int))]) (n := ((b : Int) + 2)) (pc := 464) hx hb hnL (zd_X6_value (464, .iinc 5 2, 3, 0, []) (List.mem_of_getElem? (i := 223) rfl)) (j := 6) rfl (by omega) (zp_r0 (by omega) (by omega)) rfl rfl ?_
                                refine zp_goto (tgt := 13) (pc := 467) hx hb (zd_X6_value (467, .goto (-454), 3, 0, []) (List.mem_of_getElem? (i := 224) rfl)) rfl ?_
                                refine zp_drop (L' := [(4, 0, ((d : Int) + 1)), (5, 0, ((b : Int) + 2)), (0, 2, (a : Int)), (1, 2, (xt9 : Int)), (2, 0, (i2 : Int)), (3, 2, (wd9 : Int))]) (by simp) ?_
                                exact kk 0 _ (zg_bns (fun h => absurd h.1 (by decide)) (by first | exact (zg_v25 v1 v2).1 (by omega) | exact (zg_v25 v1 v2).2 (by omega)) (by omega) (by omega)) (zgV_s hm n1 n2 n3 n4) (fun j hj => zp_set_ne (Or.inr (by omega))) zp_set_self
                              · exfalso
                                omega
                          · refine zp_const (pc := 388) hx hb (zd_X6_value (388, .lconst 1, 1, 0, []) (List.mem_of_getElem? (i := 184) rfl)) rfl rfl ?_
                            refine zp_goto (tgt := 393) (pc := 389) hx hb (zd_X6_value (389, .goto 4, 3, 0, []) (List.mem_of_getElem? (i := 185) rfl)) rfl ?_
                            refine zp_store (L' := [(12, 1, 1), (10, 1, v1), (4, 0, ((d : Int) + 1)), (8, 1, v2), (7, 0, (C (b + 1))), (6, 0, 11), (5, 0, (b : Int)), (0, 2, (a : Int)), (1, 2, (xt9 : Int)), (2, 0, (i2 : Int)), (3, 2, (wd9 : Int))]) (pc := 393) hx hb hnL (zd_X6_value (393, .lstore 12, 2, 0, []) (List.mem_of_getElem? (i := 187) rfl)) rfl rfl rfl ?_
                            refine zp_goto (tgt := 431) (pc := 395) hx hb (zd_X6_value (395, .goto 36, 3, 0, []) (List.mem_of_getElem? (i := 188) rfl)) rfl ?_
                            refine zp_load (pc := 431) hx hb (zd_X6_value (431, .lload 12, 2, 0, []) (List.mem_of_getElem? (i := 206) rfl)) rfl (j := 0) rfl ?_
                            refine zp_ldc2 (pc := 433) hx hb hE (zd_X6_value (433, .ldc2_w 89, 3, 0, []) (List.mem_of_getElem? (i := 207) rfl)) (j := 13) rfl ?_
                            refine zp_lcmp (pc := 436) (tgt := 449) hx hb (zd_X6_value (436, .lcmp, 1, 0, []) (List.mem_of_getElem? (i := 208) rfl)) (zd_X6_value (437, .ifCond .gt 12, 3, 0, []) (List.mem_of_getElem? (i := 209) rfl)) rfl (fun (hc240 : 1000000000 < 1) => ?_) (fun (hc240 : ¬ (1000000000 < 1)) => ?_)
                            · exfalso
                              omega
                            · refine zp_load (pc := 440) hx hb (zd_X6_value (440, .lload 12, 2, 0, []) (List.mem_of_getElem? (i := 210) rfl)) rfl (j := 0) rfl ?_
                              refine zp_ldc2 (pc := 442) hx hb hE (zd_X6_value (442, .ldc2_w 91, 3, 0, []) (List.mem_of_getElem? (i := 211) rfl)) (j := 14) rfl ?_
                              refine zp_lcmp (pc := 445) (tgt := 453) hx hb (zd_X6_value (445, .lcmp, 1, 0, []) (List.mem_of_getElem? (i := 212) rfl)) (zd_X6_value (446, .ifCond .ge 7, 3, 0, []) (List.mem_of_getElem? (i := 213) rfl)) rfl (fun (hc241 : (-1000000000) ≤ 1) => ?_) (fun (hc241 : ¬ ((-1000000000) ≤ 1)) => ?_)
                              · refine zp_load (pc := 453) hx hb (zd_X6_value (453, .aload_n 0, 1, 0, []) (List.mem_of_getElem? (i := 216) rfl)) rfl (j := 7) rfl ?_
                                refine zp_getf (n := (st : Int)) (pc := 454) hx hb hE hw (zd_X6_value (454, .getfield 15, 3, 0, []) (List.mem_of_getElem? (i := 217) rfl)) (j := 5) rfl rfl rfl hp hm.1 ?_
                                refine zp_load (pc := 457) hx hb (zd_X6_value (457, .iload 4, 2, 0, []) (List.mem_of_getElem? (i := 218) rfl)) rfl (j := 2) rfl ?_
                                refine zp_const (pc := 459) hx hb (zd_X6_value (459, .iconst 1, 1, 0, []) (List.mem_of_getElem? (i := 219) rfl)) rfl rfl ?_
                                refine zp_sub (n := (d : Int)) (pc := 460) hx hb (zd_X6_value (460, .isub, 1, 0, []) (List.mem_of_getElem? (i := 220) rfl)) (by omega) (zp_r0 (by omega) (by omega)) ?_
                                refine zp_load (pc := 461) hx hb (zd_X6_value (461, .lload 12, 2, 0, []) (List.mem_of_getElem? (i := 221) rfl)) rfl (j := 0) rfl ?_
                                refine zp_last (j := d) (pc := 463) hx hb hw heff (zd_X6_value (463, .lastore, 1, 0, []) (List.mem_of_getElem? (i := 222) rfl)) (show zp_ia 2 28 = some (64, 1, 0, (-9223372036854775808), 9223372036854775807) from rfl) qst (by omega) (by omega) rfl ?_
                                refine zp_iinc (L' := [(5, 0, ((b : Int) + 2)), (12, 1, 1), (10, 1, v1), (4, 0, ((d : Int) + 1)), (8, 1, v2), (7, 0, (C (b + 1))), (6, 0, 11), (0, 2, (a : Int)), (1, 2, (xt9 : Int)), (2, 0, (i2 : Int)), (3, 2, (wd9 : Int))]) (n := ((b : Int) + 2)) (pc := 464) hx hb hnL (zd_X6_value (464, .iinc 5 2, 3, 0, []) (List.mem_of_getElem? (i := 223) rfl)) (j := 6) rfl (by omega) (zp_r0 (by omega) (by omega)) rfl rfl ?_
                                refine zp_goto (tgt := 13) (pc := 467) hx hb (zd_X6_value (467, .goto (-454), 3, 0, []) (List.mem_of_getElem? (i := 224) rfl)) rfl ?_
                                refine zp_drop (L' := [(4, 0, ((d : Int) + 1)), (5, 0, ((b : Int) + 2)), (0, 2, (a : Int)), (1, 2, (xt9 : Int)), (2, 0, (i2 : Int)), (3, 2, (wd9 : Int))]) (by simp) ?_
                                exact kk 1 _ (zg_bns (fun h => absurd h.1 (by decide)) (by first | exact (zg_v25 v1 v2).1 (by omega) | exact (zg_v25 v1 v2).2 (by omega)) (by omega) (by omega)) (zgV_s hm n1 n2 n3 n4) (fun j hj => zp_set_ne (Or.inr (by omega))) zp_set_self
                              · exfalso
                                omega
                        · exfalso
                          omega
                      · exfalso
                        omega
                  · exfalso
                    omega
                · exfalso
                  omega
              · exfalso
                omega
            · exfalso
              omega
  have step_12 : ∀ (b d : Nat) (v1 v2 : Int) (G : Nat → Nat → Int), b < e9 → d + 2 < 64 → zgV a xt9 cd st wd9 N C Wd G → C b = 12 → G st (2000 + d) = v1 → G st (2000 + (d + 1)) = v2 → -2147483648 ≤ v1 ∧ v1 ≤ 2147483648 → -2147483648 ≤ v2 ∧ v2 ≤ 2147483648 → (∀ (v : Int) (G' : Nat → Nat → Int), yd_bn 26 v1 v2 = some v → zgV a xt9 cd st wd9 N C Wd G' → (∀ j, j < d → G' st (2000 + j) = G st (2000 + j)) → G' st (2000 + d) = v → zp_J p l e R s m args below meth c Q w u [] 13 [(4, 0, ((d + 1 : Nat) : Int)), (5, 0, ((b + 2 : Nat) : Int)), (0, 2, (a : Int)), (1, 2, (xt9 : Int)), (2, 0, (i2 : Int)), (3, 2, (wd9 : Int))] [] u.1 G') → (yd_bn 26 v1 v2 = none → x en = none) → zp_J p l e R s m args below meth c Q w u [] 13 [(4, 0, ((d + 2 : Nat) : Int)), (5, 0, ((b : Nat) : Int)), (0, 2, (a : Int)), (1, 2, (xt9 : Int)), (2, 0, (i2 : Int)), (3, 2, (wd9 : Int))] [] u.1 G := by
    clear step_l1 step_l2 exitv step_nt step_b4 step_b5 step_6 step_7 step_8 step_9 step_10 step_11
    intro b d v1 v2 G hb2 hd hm o1 e1 e2 bd1 bd2 kk kb
    have ho1 : G cd (2000 + b) = 12 := (hm.2.2.2.1 b).trans o1
    refine zp_drop (L' := [(4, 0, ((d : Int) + 2)), (5, 0, (b : Int)), (0, 2, (a : Int)), (1, 2, (xt9 : Int)), (2, 0, (i2 : Int)), (3, 2, (wd9 : Int))]) (by simp <;> omega) ?_
    have h99 : zk_rg 1 (-9000000000) := ⟨by decide, by decide⟩
    have hl13 := hm.2.2.1
    refine zp_load (pc := 13) hx hb (zd_X6_value (13, .iload 5, 2, 0, []) (List.mem_of_getElem? (i := 9) rfl)) rfl (j := 1) rfl ?_
    refine zp_if (pc := 15) (tgt := 470) hx hb (zd_X6_value (15, .ifCond .lt 455, 3, 0, []) (List.mem_of_getElem? (i := 10) rfl)) rfl (fun (hc242 : (b : Int) < 0) => ?_) (fun (hc242 : ¬ ((b : Int) < 0)) => ?_)
    · exfalso
      omega
    · refine zp_load (pc := 18) hx hb (zd_X6_value (18, .iload 5, 2, 0, []) (List.mem_of_getElem? (i := 11) rfl)) rfl (j := 1) rfl ?_
      refine zp_const (pc := 20) hx hb (zd_X6_value (20, .iconst 1, 1, 0, []) (List.mem_of_getElem? (i := 12) rfl)) rfl rfl ?_
      refine zp_add (n := ((b : Int) + 1)) (pc := 21) hx hb (zd_X6_value (21, .iadd, 1, 0, []) (List.mem_of_getElem? (i := 13) rfl)) (by omega) (zp_r0 (by omega) (by omega)) ?_
      refine zp_load (pc := 22) hx hb (zd_X6_value (22, .aload_n 1, 1, 0, []) (List.mem_of_getElem? (i := 14) rfl)) rfl (j := 3) rfl ?_
      refine zp_getf (n := (cd : Int)) (pc := 23) hx hb hE hw (zd_X6_value (23, .getfield 86, 3, 0, []) (List.mem_of_getElem? (i := 15) rfl)) (j := 10) rfl rfl rfl qxt hm.2.1 ?_
      refine zp_alenN (N := N) (pc := 26) hx hb hw (zd_X6_value (26, .arraylength, 1, 0, []) (List.mem_of_getElem? (i := 16) rfl)) qcd ⟨_, rfl, by decide, by decide⟩ hm.2.2.1 ?_
      refine zp_icmp (pc := 27) (tgt := 470) hx hb (zd_X6_value (27, .if_icmp .ge 443, 3, 0, []) (List.mem_of_getElem? (i := 17) rfl)) rfl (fun (hc243 : (N : Int) ≤ ((b : Int) + 1)) => ?_) (fun (hc243 : ¬ ((N : Int) ≤ ((b : Int) + 1))) => ?_)
      · exfalso
        omega
      · refine zp_load (pc := 30) hx hb (zd_X6_value (30, .iload 4, 2, 0, []) (List.mem_of_getElem? (i := 18) rfl)) rfl (j := 0) rfl ?_
        refine zp_const (pc := 32) hx hb (zd_X6_value (32, .bipush 64, 2, 0, []) (List.mem_of_getElem? (i := 19) rfl)) rfl rfl ?_
        refine zp_icmp (pc := 34) (tgt := 470) hx hb (zd_X6_value (34, .if_icmp .ge 436, 3, 0, []) (List.mem_of_getElem? (i := 20) rfl)) rfl (fun (hc244 : 64 ≤ ((d : Int) + 2)) => ?_) (fun (hc244 : ¬ (64 ≤ ((d : Int) + 2))) => ?_)
        · exfalso
          omega
        · refine zp_load (pc := 37) hx hb (zd_X6_value (37, .aload_n 1, 1, 0, []) (List.mem_of_getElem? (i := 21) rfl)) rfl (j := 3) rfl ?_
          refine zp_getf (n := (cd : Int)) (pc := 38) hx hb hE hw (zd_X6_value (38, .getfield 86, 3, 0, []) (List.mem_of_getElem? (i := 22) rfl)) (j := 10) rfl rfl rfl qxt hm.2.1 ?_
          refine zp_load (pc := 41) hx hb (zd_X6_value (41, .iload 5, 2, 0, []) (List.mem_of_getElem? (i := 23) rfl)) rfl (j := 1) rfl ?_
          refine zp_ialdN (j := b) (v := 12) (N := N) (pc := 43) hx hb hw (zd_X6_value (43, .iaload, 1, 0, []) (List.mem_of_getElem? (i := 24) rfl)) (show zp_ia 1 41 = some (0, 0, 0, (-1000000), 1000000) from rfl) ⟨_, rfl, by decide⟩ hm.2.2.1 qcd (by omega) (by omega) ho1 (fun hk245 => ?_)
          have hk245b := zp_int hk245
          refine zp_store (L' := [(6, 0, 12), (4, 0, ((d : Int) + 2)), (5, 0, (b : Int)), (0, 2, (a : Int)), (1, 2, (xt9 : Int)), (2, 0, (i2 : Int)), (3, 2, (wd9 : Int))]) (pc := 44) hx hb hnL (zd_X6_value (44, .istore 6, 2, 0, []) (List.mem_of_getElem? (i := 25) rfl)) rfl rfl rfl ?_
          refine zp_load (pc := 46) hx hb (zd_X6_value (46, .aload_n 1, 1, 0, []) (List.mem_of_getElem? (i := 26) rfl)) rfl (j := 4) rfl ?_
          refine zp_getf (n := (cd : Int)) (pc := 47) hx hb hE hw (zd_X6_value (47, .getfield 86, 3, 0, []) (List.mem_of_getElem? (i := 27) rfl)) (j := 10) rfl rfl rfl qxt hm.2.1 ?_
          refine zp_load (pc := 50) hx hb (zd_X6_value (50, .iload 5, 2, 0, []) (List.mem_of_getElem? (i := 28) rfl)) rfl (j := 2) rfl ?_
          refine zp_const (pc := 52) hx hb (zd_X6_value (52, .iconst 1, 1, 0, []) (List.mem_of_getElem? (i := 29) rfl)) rfl rfl ?_
          refine zp_add (n := ((b : Int) + 1)) (pc := 53) hx hb (zd_X6_value (53, .iadd, 1, 0, []) (List.mem_of_getElem? (i := 30) rfl)) (by omega) (zp_r0 (by omega) (by omega)) ?_
          refine zp_ialdN (j := (b + 1)) (v := (C (b + 1))) (N := N) (pc := 54) hx hb hw (zd_X6_value (54, .iaload, 1, 0, []) (List.mem_of_getElem? (i := 31) rfl)) (show zp_ia 1 41 = some (0, 0, 0, (-1000000), 1000000) from rfl) ⟨_, rfl, by decide⟩ hm.2.2.1 qcd (by omega) (by omega) (hm.2.2.2.1 (b + 1)) (fun hk246 => ?_)
          have hk246b := zp_int hk246
          refine zp_store (L' := [(7, 0, (C (b + 1))), (6, 0, 12), (4, 0, ((d : Int) + 2)), (5, 0, (b : Int)), (0, 2, (a : Int)), (1, 2, (xt9 : Int)), (2, 0, (i2 : Int)), (3, 2, (wd9 : Int))]) (pc := 55) hx hb hnL (zd_X6_value (55, .istore 7, 2, 0, []) (List.mem_of_getElem? (i := 32) rfl)) rfl rfl rfl ?_
          refine zp_load (pc := 57) hx hb (zd_X6_value (57, .iload 6, 2, 0, []) (List.mem_of_getElem? (i := 33) rfl)) rfl (j := 1) rfl ?_
          refine zp_const (pc := 59) hx hb (zd_X6_value (59, .iconst 1, 1, 0, []) (List.mem_of_getElem? (i := 34) rfl)) rfl rfl ?_
          refine zp_icmp (pc := 60) (tgt := 69) hx hb (zd_X6_value (60, .if_icmp .eq 9, 3, 0, []) (List.mem_of_getElem? (i := 35) rfl)) rfl (fun (hc247 : 12 = 1) => ?_) (fun (hc247 : ¬ (12 = 1)) => ?_)
          · exfalso
            omega
          · refine zp_load (pc := 63) hx hb (zd_X6_value (63, .iload 6, 2, 0, []) (List.mem_of_getElem? (i := 36) rfl)) rfl (j := 1) rfl ?_
            refine zp_const (pc := 65) hx hb (zd_X6_value (65, .iconst 2, 1, 0, []) (List.mem_of_getElem? (i := 37) rfl)) rfl rfl ?_
            refine zp_icmp (pc := 66) (tgt := 123) hx hb (zd_X6_value (66, .if_icmp .ne 57, 3, 0, []) (List.mem_of_getElem? (i := 38) rfl)) rfl (fun (hc248 : ¬ 12 = 2) => ?_) (fun (hc248 : ¬ (¬ 12 = 2)) => ?_)
            · refine zp_load (pc := 123) hx hb (zd_X6_value (123, .iload 4, 2, 0, []) (List.mem_of_getElem? (i := 67) rfl)) rfl (j := 2) rfl ?_
              refine zp_const (pc := 125) hx hb (zd_X6_value (125, .iconst 1, 1, 0, []) (List.mem_of_getElem? (i := 68) rfl)) rfl rfl ?_
              refine zp_icmp (pc := 126) (tgt := 133) hx hb (zd_X6_value (126, .if_icmp .ge 7, 3, 0, []) (List.mem_of_getElem? (i := 69) rfl)) rfl (fun (hc249 : 1 ≤ ((d : Int) + 2)) => ?_) (fun (hc249 : ¬ (1 ≤ ((d : Int) + 2))) => ?_)
              · refine zp_load (pc := 133) hx hb (zd_X6_value (133, .aload_n 0, 1, 0, []) (List.mem_of_getElem? (i := 72) rfl)) rfl (j := 4) rfl ?_
                refine zp_getf (n := (st : Int)) (pc := 134) hx hb hE hw (zd_X6_value (134, .getfield 15, 3, 0, []) (List.mem_of_getElem? (i := 73) rfl)) (j := 5) rfl rfl rfl hp hm.1 ?_
                refine zp_load (pc := 137) hx hb (zd_X6_value (137, .iload 4, 2, 0, []) (List.mem_of_getElem? (i := 74) rfl)) rfl (j := 2) rfl ?_
                refine zp_const (pc := 139) hx hb (zd_X6_value (139, .iconst 1, 1, 0, []) (List.mem_of_getElem? (i := 75) rfl)) rfl rfl ?_
                refine zp_sub (n := ((d : Int) + 1)) (pc := 140) hx hb (zd_X6_value (140, .isub, 1, 0, []) (List.mem_of_getElem? (i := 76) rfl)) (by omega) (zp_r0 (by omega) (by omega)) ?_
                refine zp_lald (j := (d + 1)) (v := v2) (pc := 141) hx hb hw (zd_X6_value (141, .laload, 1, 0, []) (List.mem_of_getElem? (i := 77) rfl)) (show zp_ia 2 28 = some (64, 1, 0, (-9223372036854775808), 9223372036854775807) from rfl) qst (by omega) (by omega) e2 ?_
                refine zp_store (L' := [(8, 1, v2), (7, 0, (C (b + 1))), (6, 0, 12), (4, 0, ((d : Int) + 2)), (5, 0, (b : Int)), (0, 2, (a : Int)), (1, 2, (xt9 : Int)), (2, 0, (i2 : Int)), (3, 2, (wd9 : Int))]) (pc := 142) hx hb hnL (zd_X6_value (142, .lstore 8, 2, 0, []) (List.mem_of_getElem? (i := 78) rfl)) rfl rfl rfl ?_
                refine zp_load (pc := 144) hx hb (zd_X6_value (144, .iload 6, 2, 0, []) (List.mem_of_getElem? (i := 79) rfl)) rfl (j := 2) rfl ?_
                refine zp_if (pc := 146) (tgt := 152) hx hb (zd_X6_value (146, .ifCond .ne 6, 3, 0, []) (List.mem_of_getElem? (i := 80) rfl)) rfl (fun (hc251 : ¬ 12 = 0) => ?_) (fun (hc251 : ¬ (¬ 12 = 0)) => ?_)
                · refine zp_load (pc := 152) hx hb (zd_X6_value (152, .iload 6, 2, 0, []) (List.mem_of_getElem? (i := 83) rfl)) rfl (j := 2) rfl ?_
                  refine zp_const (pc := 154) hx hb (zd_X6_value (154, .iconst 3, 1, 0, []) (List.mem_of_getElem? (i := 84) rfl)) rfl rfl ?_
                  refine zp_icmp (pc := 155) (tgt := 174) hx hb (zd_X6_value (155, .if_icmp .ne 19, 3, 0, []) (List.mem_of_getElem? (i := 85) rfl)) rfl (fun (hc252 : ¬ 12 = 3) => ?_) (fun (hc252 : ¬ (¬ 12 = 3)) => ?_)
                  · refine zp_load (pc := 174) hx hb (zd_X6_value (174, .iload 6, 2, 0, []) (List.mem_of_getElem? (i := 96) rfl)) rfl (j := 2) rfl ?_
                    refine zp_const (pc := 176) hx hb (zd_X6_value (176, .iconst 4, 1, 0, []) (List.mem_of_getElem? (i := 97) rfl)) rfl rfl ?_
                    refine zp_icmp (pc := 177) (tgt := 186) hx hb (zd_X6_value (177, .if_icmp .eq 9, 3, 0, []) (List.mem_of_getElem? (i := 98) rfl)) rfl (fun (hc253 : 12 = 4) => ?_) (fun (hc253 : ¬ (12 = 4)) => ?_)
                    · exfalso
                      omega
                    · refine zp_load (pc := 180) hx hb (zd_X6_value (180, .iload 6, 2, 0, []) (List.mem_of_getElem? (i := 99) rfl)) rfl (j := 2) rfl ?_
                      refine zp_const (pc := 182) hx hb (zd_X6_value (182, .iconst 5, 1, 0, []) (List.mem_of_getElem? (i := 100) rfl)) rfl rfl ?_
                      refine zp_icmp (pc := 183) (tgt := 236) hx hb (zd_X6_value (183, .if_icmp .ne 53, 3, 0, []) (List.mem_of_getElem? (i := 101) rfl)) rfl (fun (hc254 : ¬ 12 = 5) => ?_) (fun (hc254 : ¬ (¬ 12 = 5)) => ?_)
                      · refine zp_load (pc := 236) hx hb (zd_X6_value (236, .iload 4, 2, 0, []) (List.mem_of_getElem? (i := 128) rfl)) rfl (j := 3) rfl ?_
                        refine zp_const (pc := 238) hx hb (zd_X6_value (238, .iconst 2, 1, 0, []) (List.mem_of_getElem? (i := 129) rfl)) rfl rfl ?_
                        refine zp_icmp (pc := 239) (tgt := 246) hx hb (zd_X6_value (239, .if_icmp .ge 7, 3, 0, []) (List.mem_of_getElem? (i := 130) rfl)) rfl (fun (hc255 : 2 ≤ ((d : Int) + 2)) => ?_) (fun (hc255 : ¬ (2 ≤ ((d : Int) + 2))) => ?_)
                        · refine zp_iinc (L' := [(4, 0, ((d : Int) + 1)), (8, 1, v2), (7, 0, (C (b + 1))), (6, 0, 12), (5, 0, (b : Int)), (0, 2, (a : Int)), (1, 2, (xt9 : Int)), (2, 0, (i2 : Int)), (3, 2, (wd9 : Int))]) (n := ((d : Int) + 1)) (pc := 246) hx hb hnL (zd_X6_value (246, .iinc 4 (-1), 3, 0, []) (List.mem_of_getElem? (i := 133) rfl)) (j := 3) rfl (by omega) (zp_r0 (by omega) (by omega)) rfl rfl ?_
                          refine zp_load (pc := 249) hx hb (zd_X6_value (249, .aload_n 0, 1, 0, []) (List.mem_of_getElem? (i := 134) rfl)) rfl (j := 5) rfl ?_
                          refine zp_getf (n := (st : Int)) (pc := 250) hx hb hE hw (zd_X6_value (250, .getfield 15, 3, 0, []) (List.mem_of_getElem? (i := 135) rfl)) (j := 5) rfl rfl rfl hp hm.1 ?_
                          refine zp_load (pc := 253) hx hb (zd_X6_value (253, .iload 4, 2, 0, []) (List.mem_of_getElem? (i := 136) rfl)) rfl (j := 0) rfl ?_
                          refine zp_const (pc := 255) hx hb (zd_X6_value (255, .iconst 1, 1, 0, []) (List.mem_of_getElem? (i := 137) rfl)) rfl rfl ?_
                          refine zp_sub (n := (d : Int)) (pc := 256) hx hb (zd_X6_value (256, .isub, 1, 0, []) (List.mem_of_getElem? (i := 138) rfl)) (by omega) (zp_r0 (by omega) (by omega)) ?_
                          refine zp_lald (j := d) (v := v1) (pc := 257) hx hb hw (zd_X6_value (257, .laload, 1, 0, []) (List.mem_of_getElem? (i := 139) rfl)) (show zp_ia 2 28 = some (64, 1, 0, (-9223372036854775808), 9223372036854775807) from rfl) qst (by omega) (by omega) e1 ?_
                          refine zp_store (L' := [(10, 1, v1), (4, 0, ((d : Int) + 1)), (8, 1, v2), (7, 0, (C (b + 1))), (6, 0, 12), (5, 0, (b : Int)), (0, 2, (a : Int)), (1, 2, (xt9 : Int)), (2, 0, (i2 : Int)), (3, 2, (wd9 : Int))]) (pc := 258) hx hb hnL (zd_X6_value (258, .lstore 10, 2, 0, []) (List.mem_of_getElem? (i := 140) rfl)) rfl rfl rfl ?_
                          refine zp_load (pc := 260) hx hb (zd_X6_value (260, .iload 6, 2, 0, []) (List.mem_of_getElem? (i := 141) rfl)) rfl (j := 4) rfl ?_
                          refine zp_tin (tgt := 398) (off := 136) (pc := 262) hx hb (zd_X6_value (262, .tableswitch 154 6 12 #[42, 52, 62, 72, 95, 118, 136], 42, 0, []) (List.mem_of_getElem? (i := 142) rfl)) (by decide) (by decide) (by decide) rfl ?_
                          refine zp_load (pc := 398) hx hb (zd_X6_value (398, .lload 10, 2, 0, []) (List.mem_of_getElem? (i := 189) rfl)) rfl (j := 0) rfl ?_
                          refine zp_load (pc := 400) hx hb (zd_X6_value (400, .lload 8, 2, 0, []) (List.mem_of_getElem? (i := 190) rfl)) rfl (j := 2) rfl ?_
                          refine zp_lcmp (pc := 402) (tgt := 410) hx hb (zd_X6_value (402, .lcmp, 1, 0, []) (List.mem_of_getElem? (i := 191) rfl)) (zd_X6_value (403, .ifCond .le 7, 3, 0, []) (List.mem_of_getElem? (i := 192) rfl)) rfl (fun (hc257 : v1 ≤ v2) => ?_) (fun (hc257 : ¬ (v1 ≤ v2)) => ?_)
                          · refine zp_const (pc := 410) hx hb (zd_X6_value (410, .lconst 0, 1, 0, []) (List.mem_of_getElem? (i := 195) rfl)) rfl rfl ?_
                            refine zp_store (L' := [(12, 1, 0), (10, 1, v1), (4, 0, ((d : Int) + 1)), (8, 1, v2), (7, 0, (C (b + 1))), (6, 0, 12), (5, 0, (b : Int)), (0, 2, (a : Int)), (1, 2, (xt9 : Int)), (2, 0, (i2 : Int)), (3, 2, (wd9 : Int))]) (pc := 411) hx hb hnL (zd_X6_value (411, .lstore 12, 2, 0, []) (List.mem_of_getElem? (i := 196) rfl)) rfl rfl rfl ?_
                            refine zp_goto (tgt := 431) (pc := 413) hx hb (zd_X6_value (413, .goto 18, 3, 0, []) (List.mem_of_getElem? (i := 197) rfl)) rfl ?_
                            refine zp_load (pc := 431) hx hb (zd_X6_value (431, .lload 12, 2, 0, []) (List.mem_of_getElem? (i := 206) rfl)) rfl (j := 0) rfl ?_
                            refine zp_ldc2 (pc := 433) hx hb hE (zd_X6_value (433, .ldc2_w 89, 3, 0, []) (List.mem_of_getElem? (i := 207) rfl)) (j := 13) rfl ?_
                            refine zp_lcmp (pc := 436) (tgt := 449) hx hb (zd_X6_value (436, .lcmp, 1, 0, []) (List.mem_of_getElem? (i := 208) rfl)) (zd_X6_value (437, .ifCond .gt 12, 3, 0, []) (List.mem_of_getElem? (i := 209) rfl)) rfl (fun (hc258 : 1000000000 < 0) => ?_) (fun (hc258 : ¬ (1000000000 < 0)) => ?_)
                            · exfalso
                              omega
                            · refine zp_load (pc := 440) hx hb (zd_X6_value (440, .lload 12, 2, 0, []) (List.mem_of_getElem? (i := 210) rfl)) rfl (j := 0) rfl ?_
                              refine zp_ldc2 (pc := 442) hx hb hE (zd_X6_value (442, .ldc2_w 91, 3, 0, []) (List.mem_of_getElem? (i := 211) rfl)) (j := 14) rfl ?_
                              refine zp_lcmp (pc := 445) (tgt := 453) hx hb (zd_X6_value (445, .lcmp, 1, 0, []) (List.mem_of_getElem? (i := 212) rfl)) (zd_X6_value (446, .ifCond .ge 7, 3, 0, []) (List.mem_of_getElem? (i := 213) rfl)) rfl (fun (hc259 : (-1000000000) ≤ 0) => ?_) (fun (hc259 : ¬ ((-1000000000) ≤ 0)) => ?_)
                              · refine zp_load (pc := 453) hx hb (zd_X6_value (453, .aload_n 0, 1, 0, []) (List.mem_of_getElem? (i := 216) rfl)) rfl (j := 7) rfl ?_
                                refine zp_getf (n := (st : Int)) (pc := 454) hx hb hE hw (zd_X6_value (454, .getfield 15, 3, 0, []) (List.mem_of_getElem? (i := 217) rfl)) (j := 5) rfl rfl rfl hp hm.1 ?_
                                refine zp_load (pc := 457) hx hb (zd_X6_value (457, .iload 4, 2, 0, []) (List.mem_of_getElem? (i := 218) rfl)) rfl (j := 2) rfl ?_
                                refine zp_const (pc := 459) hx hb (zd_X6_value (459, .iconst 1, 1, 0, []) (List.mem_of_getElem? (i := 219) rfl)) rfl rfl ?_
                                refine zp_sub (n := (d : Int)) (pc := 460) hx hb (zd_X6_value (460, .isub, 1, 0, []) (List.mem_of_getElem? (i := 220) rfl)) (by omega) (zp_r0 (by omega) (by omega)) ?_
                                refine zp_load (pc := 461) hx hb (zd_X6_value (461, .lload 12, 2, 0, []) (List.mem_of_getElem? (i := 221) rfl)) rfl (j := 0) rfl ?_
                                refine zp_last (j := d) (pc := 463) hx hb hw heff (zd_X6_value (463, .lastore, 1, 0, []) (List.mem_of_getElem? (i := 222) rfl)) (show zp_ia 2 28 = some (64, 1, 0, (-9223372036854775808), 9223372036854775807) from rfl) qst (by omega) (by omega) rfl ?_
                                refine zp_iinc (L' := [(5, 0, ((b : Int) + 2)), (12, 1, 0), (10, 1, v1), (4, 0, ((d : Int) + 1)), (8, 1, v2), (7, 0, (C (b + 1))), (6, 0, 12), (0, 2, (a : Int)), (1, 2, (xt9 : Int)), (2, 0, (i2 : Int)), (3, 2, (wd9 : Int))]) (n := ((b : Int) + 2)) (pc := 464) hx hb hnL (zd_X6_value (464, .iinc 5 2, 3, 0, []) (List.mem_of_getElem? (i := 223) rfl)) (j := 6) rfl (by omega) (zp_r0 (by omega) (by omega)) rfl rfl ?_
                                refine zp_goto (tgt := 13) (pc := 467) hx hb (zd_X6_value (467, .goto (-454), 3, 0, []) (List.mem_of_getElem? (i := 224) rfl)) rfl ?_
                                refine zp_drop (L' := [(4, 0, ((d : Int) + 1)), (5, 0, ((b : Int) + 2)), (0, 2, (a : Int)), (1, 2, (xt9 : Int)), (2, 0, (i2 : Int)), (3, 2, (wd9 : Int))]) (by simp) ?_
                                exact kk 0 _ (zg_bns (fun h => absurd h.1 (by decide)) (by first | exact (zg_v26 v1 v2).1 (by omega) | exact (zg_v26 v1 v2).2 (by omega)) (by omega) (by omega)) (zgV_s hm n1 n2 n3 n4) (fun j hj => zp_set_ne (Or.inr (by omega))) zp_set_self
                              · exfalso
                                omega
                          · refine zp_const (pc := 406) hx hb (zd_X6_value (406, .lconst 1, 1, 0, []) (List.mem_of_getElem? (i := 193) rfl)) rfl rfl ?_
                            refine zp_goto (tgt := 411) (pc := 407) hx hb (zd_X6_value (407, .goto 4, 3, 0, []) (List.mem_of_getElem? (i := 194) rfl)) rfl ?_
                            refine zp_store (L' := [(12, 1, 1), (10, 1, v1), (4, 0, ((d : Int) + 1)), (8, 1, v2), (7, 0, (C (b + 1))), (6, 0, 12), (5, 0, (b : Int)), (0, 2, (a : Int)), (1, 2, (xt9 : Int)), (2, 0, (i2 : Int)), (3, 2, (wd9 : Int))]) (pc := 411) hx hb hnL (zd_X6_value (411, .lstore 12, 2, 0, []) (List.mem_of_getElem? (i := 196) rfl)) rfl rfl rfl ?_
                            refine zp_goto (tgt := 431) (pc := 413) hx hb (zd_X6_value (413, .goto 18, 3, 0, []) (List.mem_of_getElem? (i := 197) rfl)) rfl ?_
                            refine zp_load (pc := 431) hx hb (zd_X6_value (431, .lload 12, 2, 0, []) (List.mem_of_getElem? (i := 206) rfl)) rfl (j := 0) rfl ?_
                            refine zp_ldc2 (pc := 433) hx hb hE (zd_X6_value (433, .ldc2_w 89, 3, 0, []) (List.mem_of_getElem? (i := 207) rfl)) (j := 13) rfl ?_
                            refine zp_lcmp (pc := 436) (tgt := 449) hx hb (zd_X6_value (436, .lcmp, 1, 0, []) (List.mem_of_getElem? (i := 208) rfl)) (zd_X6_value (437, .ifCond .gt 12, 3, 0, []) (List.mem_of_getElem? (i := 209) rfl)) rfl (fun (hc260 : 1000000000 < 1) => ?_) (fun (hc260 : ¬ (1000000000 < 1)) => ?_)
                            · exfalso
                              omega
                            · refine zp_load (pc := 440) hx hb (zd_X6_value (440, .lload 12, 2, 0, []) (List.mem_of_getElem? (i := 210) rfl)) rfl (j := 0) rfl ?_
                              refine zp_ldc2 (pc := 442) hx hb hE (zd_X6_value (442, .ldc2_w 91, 3, 0, []) (List.mem_of_getElem? (i := 211) rfl)) (j := 14) rfl ?_
                              refine zp_lcmp (pc := 445) (tgt := 453) hx hb (zd_X6_value (445, .lcmp, 1, 0, []) (List.mem_of_getElem? (i := 212) rfl)) (zd_X6_value (446, .ifCond .ge 7, 3, 0, []) (List.mem_of_getElem? (i := 213) rfl)) rfl (fun (hc261 : (-1000000000) ≤ 1) => ?_) (fun (hc261 : ¬ ((-1000000000) ≤ 1)) => ?_)
                              · refine zp_load (pc := 453) hx hb (zd_X6_value (453, .aload_n 0, 1, 0, []) (List.mem_of_getElem? (i := 216) rfl)) rfl (j := 7) rfl ?_
                                refine zp_getf (n := (st : Int)) (pc := 454) hx hb hE hw (zd_X6_value (454, .getfield 15, 3, 0, []) (List.mem_of_getElem? (i := 217) rfl)) (j := 5) rfl rfl rfl hp hm.1 ?_
                                refine zp_load (pc := 457) hx hb (zd_X6_value (457, .iload 4, 2, 0, []) (List.mem_of_getElem? (i := 218) rfl)) rfl (j := 2) rfl ?_
                                refine zp_const (pc := 459) hx hb (zd_X6_value (459, .iconst 1, 1, 0, []) (List.mem_of_getElem? (i := 219) rfl)) rfl rfl ?_
                                refine zp_sub (n := (d : Int)) (pc := 460) hx hb (zd_X6_value (460, .isub, 1, 0, []) (List.mem_of_getElem? (i := 220) rfl)) (by omega) (zp_r0 (by omega) (by omega)) ?_
                                refine zp_load (pc := 461) hx hb (zd_X6_value (461, .lload 12, 2, 0, []) (List.mem_of_getElem? (i := 221) rfl)) rfl (j := 0) rfl ?_
                                refine zp_last (j := d) (pc := 463) hx hb hw heff (zd_X6_value (463, .lastore, 1, 0, []) (List.mem_of_getElem? (i := 222) rfl)) (show zp_ia 2 28 = some (64, 1, 0, (-9223372036854775808), 9223372036854775807) from rfl) qst (by omega) (by omega) rfl ?_
                                refine zp_iinc (L' := [(5, 0, ((b : Int) + 2)), (12, 1, 1), (10, 1, v1), (4, 0, ((d : Int) + 1)), (8, 1, v2), (7, 0, (C (b + 1))), (6, 0, 12), (0, 2, (a : Int)), (1, 2, (xt9 : Int)), (2, 0, (i2 : Int)), (3, 2, (wd9 : Int))]) (n := ((b : Int) + 2)) (pc := 464) hx hb hnL (zd_X6_value (464, .iinc 5 2, 3, 0, []) (List.mem_of_getElem? (i := 223) rfl)) (j := 6) rfl (by omega) (zp_r0 (by omega) (by omega)) rfl rfl ?_
                                refine zp_goto (tgt := 13) (pc := 467) hx hb (zd_X6_value (467, .goto (-454), 3, 0, []) (List.mem_of_getElem? (i := 224) rfl)) rfl ?_
                                refine zp_drop (L' := [(4, 0, ((d : Int) + 1)), (5, 0, ((b : Int) + 2)), (0, 2, (a : Int)), (1, 2, (xt9 : Int)), (2, 0, (i2 : Int)), (3, 2, (wd9 : Int))]) (by simp) ?_
                                exact kk 1 _ (zg_bns (fun h => absurd h.1 (by decide)) (by first | exact (zg_v26 v1 v2).1 (by omega) | exact (zg_v26 v1 v2).2 (by omega)) (by omega) (by omega)) (zgV_s hm n1 n2 n3 n4) (fun j hj => zp_set_ne (Or.inr (by omega))) zp_set_self
                              · exfalso
                                omega
                        · exfalso
                          omega
                      · exfalso
                        omega
                  · exfalso
                    omega
                · exfalso
                  omega
              · exfalso
                omega
            · exfalso
              omega
  have step_13 : ∀ (b d : Nat) (v1 v2 : Int) (G : Nat → Nat → Int), b < e9 → d + 2 < 64 → zgV a xt9 cd st wd9 N C Wd G → C b = 13 → G st (2000 + d) = v1 → G st (2000 + (d + 1)) = v2 → -2147483648 ≤ v1 ∧ v1 ≤ 2147483648 → -2147483648 ≤ v2 ∧ v2 ≤ 2147483648 → (∀ (v : Int) (G' : Nat → Nat → Int), yd_bn 27 v1 v2 = some v → zgV a xt9 cd st wd9 N C Wd G' → (∀ j, j < d → G' st (2000 + j) = G st (2000 + j)) → G' st (2000 + d) = v → zp_J p l e R s m args below meth c Q w u [] 13 [(4, 0, ((d + 1 : Nat) : Int)), (5, 0, ((b + 2 : Nat) : Int)), (0, 2, (a : Int)), (1, 2, (xt9 : Int)), (2, 0, (i2 : Int)), (3, 2, (wd9 : Int))] [] u.1 G') → (yd_bn 27 v1 v2 = none → x en = none) → zp_J p l e R s m args below meth c Q w u [] 13 [(4, 0, ((d + 2 : Nat) : Int)), (5, 0, ((b : Nat) : Int)), (0, 2, (a : Int)), (1, 2, (xt9 : Int)), (2, 0, (i2 : Int)), (3, 2, (wd9 : Int))] [] u.1 G := by
    clear step_l1 step_l2 exitv step_nt step_b4 step_b5 step_6 step_7 step_8 step_9 step_10 step_11 step_12
    intro b d v1 v2 G hb2 hd hm o1 e1 e2 bd1 bd2 kk kb
    have ho1 : G cd (2000 + b) = 13 := (hm.2.2.2.1 b).trans o1
    refine zp_drop (L' := [(4, 0, ((d : Int) + 2)), (5, 0, (b : Int)), (0, 2, (a : Int)), (1, 2, (xt9 : Int)), (2, 0, (i2 : Int)), (3, 2, (wd9 : Int))]) (by simp <;> omega) ?_
    have h99 : zk_rg 1 (-9000000000) := ⟨by decide, by decide⟩
    have hl13 := hm.2.2.1
    refine zp_load (pc := 13) hx hb (zd_X6_value (13, .iload 5, 2, 0, []) (List.mem_of_getElem? (i := 9) rfl)) rfl (j := 1) rfl ?_
    refine zp_if (pc := 15) (tgt := 470) hx hb (zd_X6_value (15, .ifCond .lt 455, 3, 0, []) (List.mem_of_getElem? (i := 10) rfl)) rfl (fun (hc262 : (b : Int) < 0) => ?_) (fun (hc262 : ¬ ((b : Int) < 0)) => ?_)
    · exfalso
      omega
    · refine zp_load (pc := 18) hx hb (zd_X6_value (18, .iload 5, 2, 0, []) (List.mem_of_getElem? (i := 11) rfl)) rfl (j := 1) rfl ?_
      refine zp_const (pc := 20) hx hb (zd_X6_value (20, .iconst 1, 1, 0, []) (List.mem_of_getElem? (i := 12) rfl)) rfl rfl ?_
      refine zp_add (n := ((b : Int) + 1)) (pc := 21) hx hb (zd_X6_value (21, .iadd, 1, 0, []) (List.mem_of_getElem? (i := 13) rfl)) (by omega) (zp_r0 (by omega) (by omega)) ?_
      refine zp_load (pc := 22) hx hb (zd_X6_value (22, .aload_n 1, 1, 0, []) (List.mem_of_getElem? (i := 14) rfl)) rfl (j := 3) rfl ?_
      refine zp_getf (n := (cd : Int)) (pc := 23) hx hb hE hw (zd_X6_value (23, .getfield 86, 3, 0, []) (List.mem_of_getElem? (i := 15) rfl)) (j := 10) rfl rfl rfl qxt hm.2.1 ?_
      refine zp_alenN (N := N) (pc := 26) hx hb hw (zd_X6_value (26, .arraylength, 1, 0, []) (List.mem_of_getElem? (i := 16) rfl)) qcd ⟨_, rfl, by decide, by decide⟩ hm.2.2.1 ?_
      refine zp_icmp (pc := 27) (tgt := 470) hx hb (zd_X6_value (27, .if_icmp .ge 443, 3, 0, []) (List.mem_of_getElem? (i := 17) rfl)) rfl (fun (hc263 : (N : Int) ≤ ((b : Int) + 1)) => ?_) (fun (hc263 : ¬ ((N : Int) ≤ ((b : Int) + 1))) => ?_)
      · exfalso
        omega
      · refine zp_load (pc := 30) hx hb (zd_X6_value (30, .iload 4, 2, 0, []) (List.mem_of_getElem? (i := 18) rfl)) rfl (j := 0) rfl ?_
        refine zp_const (pc := 32) hx hb (zd_X6_value (32, .bipush 64, 2, 0, []) (List.mem_of_getElem? (i := 19) rfl)) rfl rfl ?_
        refine zp_icmp (pc := 34) (tgt := 470) hx hb (zd_X6_value (34, .if_icmp .ge 436, 3, 0, []) (List.mem_of_getElem? (i := 20) rfl)) rfl (fun (hc264 : 64 ≤ ((d : Int) + 2)) => ?_) (fun (hc264 : ¬ (64 ≤ ((d : Int) + 2))) => ?_)
        · exfalso
          omega
        · refine zp_load (pc := 37) hx hb (zd_X6_value (37, .aload_n 1, 1, 0, []) (List.mem_of_getElem? (i := 21) rfl)) rfl (j := 3) rfl ?_
          refine zp_getf (n := (cd : Int)) (pc := 38) hx hb hE hw (zd_X6_value (38, .getfield 86, 3, 0, []) (List.mem_of_getElem? (i := 22) rfl)) (j := 10) rfl rfl rfl qxt hm.2.1 ?_
          refine zp_load (pc := 41) hx hb (zd_X6_value (41, .iload 5, 2, 0, []) (List.mem_of_getElem? (i := 23) rfl)) rfl (j := 1) rfl ?_
          refine zp_ialdN (j := b) (v := 13) (N := N) (pc := 43) hx hb hw (zd_X6_value (43, .iaload, 1, 0, []) (List.mem_of_getElem? (i := 24) rfl)) (show zp_ia 1 41 = some (0, 0, 0, (-1000000), 1000000) from rfl) ⟨_, rfl, by decide⟩ hm.2.2.1 qcd (by omega) (by omega) ho1 (fun hk265 => ?_)
          have hk265b := zp_int hk265
          refine zp_store (L' := [(6, 0, 13), (4, 0, ((d : Int) + 2)), (5, 0, (b : Int)), (0, 2, (a : Int)), (1, 2, (xt9 : Int)), (2, 0, (i2 : Int)), (3, 2, (wd9 : Int))]) (pc := 44) hx hb hnL (zd_X6_value (44, .istore 6, 2, 0, []) (List.mem_of_getElem? (i := 25) rfl)) rfl rfl rfl ?_
          refine zp_load (pc := 46) hx hb (zd_X6_value (46, .aload_n 1, 1, 0, []) (List.mem_of_getElem? (i := 26) rfl)) rfl (j := 4) rfl ?_
          refine zp_getf (n := (cd : Int)) (pc := 47) hx hb hE hw (zd_X6_value (47, .getfield 86, 3, 0, []) (List.mem_of_getElem? (i := 27) rfl)) (j := 10) rfl rfl rfl qxt hm.2.1 ?_
          refine zp_load (pc := 50) hx hb (zd_X6_value (50, .iload 5, 2, 0, []) (List.mem_of_getElem? (i := 28) rfl)) rfl (j := 2) rfl ?_
          refine zp_const (pc := 52) hx hb (zd_X6_value (52, .iconst 1, 1, 0, []) (List.mem_of_getElem? (i := 29) rfl)) rfl rfl ?_
          refine zp_add (n := ((b : Int) + 1)) (pc := 53) hx hb (zd_X6_value (53, .iadd, 1, 0, []) (List.mem_of_getElem? (i := 30) rfl)) (by omega) (zp_r0 (by omega) (by omega)) ?_
          refine zp_ialdN (j := (b + 1)) (v := (C (b + 1))) (N := N) (pc := 54) hx hb hw (zd_X6_value (54, .iaload, 1, 0, []) (List.mem_of_getElem? (i := 31) rfl)) (show zp_ia 1 41 = some (0, 0, 0, (-1000000), 1000000) from rfl) ⟨_, rfl, by decide⟩ hm.2.2.1 qcd (by omega) (by omega) (hm.2.2.2.1 (b + 1)) (fun hk266 => ?_)
          have hk266b := zp_int hk266
          refine zp_store (L' := [(7, 0, (C (b + 1))), (6, 0, 13), (4, 0, ((d : Int) + 2)), (5, 0, (b : Int)), (0, 2, (a : Int)), (1, 2, (xt9 : Int)), (2, 0, (i2 : Int)), (3, 2, (wd9 : Int))]) (pc := 55) hx hb hnL (zd_X6_value (55, .istore 7, 2, 0, []) (List.mem_of_getElem? (i := 32) rfl)) rfl rfl rfl ?_
          refine zp_load (pc := 57) hx hb (zd_X6_value (57, .iload 6, 2, 0, []) (List.mem_of_getElem? (i := 33) rfl)) rfl (j := 1) rfl ?_
          refine zp_const (pc := 59) hx hb (zd_X6_value (59, .iconst 1, 1, 0, []) (List.mem_of_getElem? (i := 34) rfl)) rfl rfl ?_
          refine zp_icmp (pc := 60) (tgt := 69) hx hb (zd_X6_value (60, .if_icmp .eq 9, 3, 0, []) (List.mem_of_getElem? (i := 35) rfl)) rfl (fun (hc267 : 13 = 1) => ?_) (fun (hc267 : ¬ (13 = 1)) => ?_)
          · exfalso
            omega
          · refine zp_load (pc := 63) hx hb (zd_X6_value (63, .iload 6, 2, 0, []) (List.mem_of_getElem? (i := 36) rfl)) rfl (j := 1) rfl ?_
            refine zp_const (pc := 65) hx hb (zd_X6_value (65, .iconst 2, 1, 0, []) (List.mem_of_getElem? (i := 37) rfl)) rfl rfl ?_
            refine zp_icmp (pc := 66) (tgt := 123) hx hb (zd_X6_value (66, .if_icmp .ne 57, 3, 0, []) (List.mem_of_getElem? (i := 38) rfl)) rfl (fun (hc268 : ¬ 13 = 2) => ?_) (fun (hc268 : ¬ (¬ 13 = 2)) => ?_)
            · refine zp_load (pc := 123) hx hb (zd_X6_value (123, .iload 4, 2, 0, []) (List.mem_of_getElem? (i := 67) rfl)) rfl (j := 2) rfl ?_
              refine zp_const (pc := 125) hx hb (zd_X6_value (125, .iconst 1, 1, 0, []) (List.mem_of_getElem? (i := 68) rfl)) rfl rfl ?_
              refine zp_icmp (pc := 126) (tgt := 133) hx hb (zd_X6_value (126, .if_icmp .ge 7, 3, 0, []) (List.mem_of_getElem? (i := 69) rfl)) rfl (fun (hc269 : 1 ≤ ((d : Int) + 2)) => ?_) (fun (hc269 : ¬ (1 ≤ ((d : Int) + 2))) => ?_)
              · refine zp_load (pc := 133) hx hb (zd_X6_value (133, .aload_n 0, 1, 0, []) (List.mem_of_getElem? (i := 72) rfl)) rfl (j := 4) rfl ?_
                refine zp_getf (n := (st : Int)) (pc := 134) hx hb hE hw (zd_X6_value (134, .getfield 15, 3, 0, []) (List.mem_of_getElem? (i := 73) rfl)) (j := 5) rfl rfl rfl hp hm.1 ?_
                refine zp_load (pc := 137) hx hb (zd_X6_value (137, .iload 4, 2, 0, []) (List.mem_of_getElem? (i := 74) rfl)) rfl (j := 2) rfl ?_
                refine zp_const (pc := 139) hx hb (zd_X6_value (139, .iconst 1, 1, 0, []) (List.mem_of_getElem? (i := 75) rfl)) rfl rfl ?_
                refine zp_sub (n := ((d : Int) + 1)) (pc := 140) hx hb (zd_X6_value (140, .isub, 1, 0, []) (List.mem_of_getElem? (i := 76) rfl)) (by omega) (zp_r0 (by omega) (by omega)) ?_
                refine zp_lald (j := (d + 1)) (v := v2) (pc := 141) hx hb hw (zd_X6_value (141, .laload, 1, 0, []) (List.mem_of_getElem? (i := 77) rfl)) (show zp_ia 2 28 = some (64, 1, 0, (-9223372036854775808), 9223372036854775807) from rfl) qst (by omega) (by omega) e2 ?_
                refine zp_store (L' := [(8, 1, v2), (7, 0, (C (b + 1))), (6, 0, 13), (4, 0, ((d : Int) + 2)), (5, 0, (b : Int)), (0, 2, (a : Int)), (1, 2, (xt9 : Int)), (2, 0, (i2 : Int)), (3, 2, (wd9 : Int))]) (pc := 142) hx hb hnL (zd_X6_value (142, .lstore 8, 2, 0, []) (List.mem_of_getElem? (i := 78) rfl)) rfl rfl rfl ?_
                refine zp_load (pc := 144) hx hb (zd_X6_value (144, .iload 6, 2, 0, []) (List.mem_of_getElem? (i := 79) rfl)) rfl (j := 2) rfl ?_
                refine zp_if (pc := 146) (tgt := 152) hx hb (zd_X6_value (146, .ifCond .ne 6, 3, 0, []) (List.mem_of_getElem? (i := 80) rfl)) rfl (fun (hc271 : ¬ 13 = 0) => ?_) (fun (hc271 : ¬ (¬ 13 = 0)) => ?_)
                · refine zp_load (pc := 152) hx hb (zd_X6_value (152, .iload 6, 2, 0, []) (List.mem_of_getElem? (i := 83) rfl)) rfl (j := 2) rfl ?_
                  refine zp_const (pc := 154) hx hb (zd_X6_value (154, .iconst 3, 1, 0, []) (List.mem_of_getElem? (i := 84) rfl)) rfl rfl ?_
                  refine zp_icmp (pc := 155) (tgt := 174) hx hb (zd_X6_value (155, .if_icmp .ne 19, 3, 0, []) (List.mem_of_getElem? (i := 85) rfl)) rfl (fun (hc272 : ¬ 13 = 3) => ?_) (fun (hc272 : ¬ (¬ 13 = 3)) => ?_)
                  · refine zp_load (pc := 174) hx hb (zd_X6_value (174, .iload 6, 2, 0, []) (List.mem_of_getElem? (i := 96) rfl)) rfl (j := 2) rfl ?_
                    refine zp_const (pc := 176) hx hb (zd_X6_value (176, .iconst 4, 1, 0, []) (List.mem_of_getElem? (i := 97) rfl)) rfl rfl ?_
                    refine zp_icmp (pc := 177) (tgt := 186) hx hb (zd_X6_value (177, .if_icmp .eq 9, 3, 0, []) (List.mem_of_getElem? (i := 98) rfl)) rfl (fun (hc273 : 13 = 4) => ?_) (fun (hc273 : ¬ (13 = 4)) => ?_)
                    · exfalso
                      omega
                    · refine zp_load (pc := 180) hx hb (zd_X6_value (180, .iload 6, 2, 0, []) (List.mem_of_getElem? (i := 99) rfl)) rfl (j := 2) rfl ?_
                      refine zp_const (pc := 182) hx hb (zd_X6_value (182, .iconst 5, 1, 0, []) (List.mem_of_getElem? (i := 100) rfl)) rfl rfl ?_
                      refine zp_icmp (pc := 183) (tgt := 236) hx hb (zd_X6_value (183, .if_icmp .ne 53, 3, 0, []) (List.mem_of_getElem? (i := 101) rfl)) rfl (fun (hc274 : ¬ 13 = 5) => ?_) (fun (hc274 : ¬ (¬ 13 = 5)) => ?_)
                      · refine zp_load (pc := 236) hx hb (zd_X6_value (236, .iload 4, 2, 0, []) (List.mem_of_getElem? (i := 128) rfl)) rfl (j := 3) rfl ?_
                        refine zp_const (pc := 238) hx hb (zd_X6_value (238, .iconst 2, 1, 0, []) (List.mem_of_getElem? (i := 129) rfl)) rfl rfl ?_
                        refine zp_icmp (pc := 239) (tgt := 246) hx hb (zd_X6_value (239, .if_icmp .ge 7, 3, 0, []) (List.mem_of_getElem? (i := 130) rfl)) rfl (fun (hc275 : 2 ≤ ((d : Int) + 2)) => ?_) (fun (hc275 : ¬ (2 ≤ ((d : Int) + 2))) => ?_)
                        · refine zp_iinc (L' := [(4, 0, ((d : Int) + 1)), (8, 1, v2), (7, 0, (C (b + 1))), (6, 0, 13), (5, 0, (b : Int)), (0, 2, (a : Int)), (1, 2, (xt9 : Int)), (2, 0, (i2 : Int)), (3, 2, (wd9 : Int))]) (n := ((d : Int) + 1)) (pc := 246) hx hb hnL (zd_X6_value (246, .iinc 4 (-1), 3, 0, []) (List.mem_of_getElem? (i := 133) rfl)) (j := 3) rfl (by omega) (zp_r0 (by omega) (by omega)) rfl rfl ?_
                          refine zp_load (pc := 249) hx hb (zd_X6_value (249, .aload_n 0, 1, 0, []) (List.mem_of_getElem? (i := 134) rfl)) rfl (j := 5) rfl ?_
                          refine zp_getf (n := (st : Int)) (pc := 250) hx hb hE hw (zd_X6_value (250, .getfield 15, 3, 0, []) (List.mem_of_getElem? (i := 135) rfl)) (j := 5) rfl rfl rfl hp hm.1 ?_
                          refine zp_load (pc := 253) hx hb (zd_X6_value (253, .iload 4, 2, 0, []) (List.mem_of_getElem? (i := 136) rfl)) rfl (j := 0) rfl ?_
                          refine zp_const (pc := 255) hx hb (zd_X6_value (255, .iconst 1, 1, 0, []) (List.mem_of_getElem? (i := 137) rfl)) rfl rfl ?_
                          refine zp_sub (n := (d : Int)) (pc := 256) hx hb (zd_X6_value (256, .isub, 1, 0, []) (List.mem_of_getElem? (i := 138) rfl)) (by omega) (zp_r0 (by omega) (by omega)) ?_
                          refine zp_lald (j := d) (v := v1) (pc := 257) hx hb hw (zd_X6_value (257, .laload, 1, 0, []) (List.mem_of_getElem? (i := 139) rfl)) (show zp_ia 2 28 = some (64, 1, 0, (-9223372036854775808), 9223372036854775807) from rfl) qst (by omega) (by omega) e1 ?_
                          refine zp_store (L' := [(10, 1, v1), (4, 0, ((d : Int) + 1)), (8, 1, v2), (7, 0, (C (b + 1))), (6, 0, 13), (5, 0, (b : Int)), (0, 2, (a : Int)), (1, 2, (xt9 : Int)), (2, 0, (i2 : Int)), (3, 2, (wd9 : Int))]) (pc := 258) hx hb hnL (zd_X6_value (258, .lstore 10, 2, 0, []) (List.mem_of_getElem? (i := 140) rfl)) rfl rfl rfl ?_
                          refine zp_load (pc := 260) hx hb (zd_X6_value (260, .iload 6, 2, 0, []) (List.mem_of_getElem? (i := 141) rfl)) rfl (j := 4) rfl ?_
                          refine zp_tout (tgt := 416) (pc := 262) hx hb (zd_X6_value (262, .tableswitch 154 6 12 #[42, 52, 62, 72, 95, 118, 136], 42, 0, []) (List.mem_of_getElem? (i := 142) rfl)) (by decide) rfl ?_
                          refine zp_load (pc := 416) hx hb (zd_X6_value (416, .lload 10, 2, 0, []) (List.mem_of_getElem? (i := 198) rfl)) rfl (j := 0) rfl ?_
                          refine zp_load (pc := 418) hx hb (zd_X6_value (418, .lload 8, 2, 0, []) (List.mem_of_getElem? (i := 199) rfl)) rfl (j := 2) rfl ?_
                          refine zp_lcmp (pc := 420) (tgt := 428) hx hb (zd_X6_value (420, .lcmp, 1, 0, []) (List.mem_of_getElem? (i := 200) rfl)) (zd_X6_value (421, .ifCond .ne 7, 3, 0, []) (List.mem_of_getElem? (i := 201) rfl)) rfl (fun (hc277 : ¬ v1 = v2) => ?_) (fun (hc277 : ¬ (¬ v1 = v2)) => ?_)
                          · refine zp_const (pc := 428) hx hb (zd_X6_value (428, .lconst 0, 1, 0, []) (List.mem_of_getElem? (i := 204) rfl)) rfl rfl ?_
                            refine zp_store (L' := [(12, 1, 0), (10, 1, v1), (4, 0, ((d : Int) + 1)), (8, 1, v2), (7, 0, (C (b + 1))), (6, 0, 13), (5, 0, (b : Int)), (0, 2, (a : Int)), (1, 2, (xt9 : Int)), (2, 0, (i2 : Int)), (3, 2, (wd9 : Int))]) (pc := 429) hx hb hnL (zd_X6_value (429, .lstore 12, 2, 0, []) (List.mem_of_getElem? (i := 205) rfl)) rfl rfl rfl ?_
                            refine zp_load (pc := 431) hx hb (zd_X6_value (431, .lload 12, 2, 0, []) (List.mem_of_getElem? (i := 206) rfl)) rfl (j := 0) rfl ?_
                            refine zp_ldc2 (pc := 433) hx hb hE (zd_X6_value (433, .ldc2_w 89, 3, 0, []) (List.mem_of_getElem? (i := 207) rfl)) (j := 13) rfl ?_
                            refine zp_lcmp (pc := 436) (tgt := 449) hx hb (zd_X6_value (436, .lcmp, 1, 0, []) (List.mem_of_getElem? (i := 208) rfl)) (zd_X6_value (437, .ifCond .gt 12, 3, 0, []) (List.mem_of_getElem? (i := 209) rfl)) rfl (fun (hc278 : 1000000000 < 0) => ?_) (fun (hc278 : ¬ (1000000000 < 0)) => ?_)
                            · exfalso
                              omega
                            · refine zp_load (pc := 440) hx hb (zd_X6_value (440, .lload 12, 2, 0, []) (List.mem_of_getElem? (i := 210) rfl)) rfl (j := 0) rfl ?_
                              refine zp_ldc2 (pc := 442) hx hb hE (zd_X6_value (442, .ldc2_w 91, 3, 0, []) (List.mem_of_getElem? (i := 211) rfl)) (j := 14) rfl ?_
                              refine zp_lcmp (pc := 445) (tgt := 453) hx hb (zd_X6_value (445, .lcmp, 1, 0, []) (List.mem_of_getElem? (i := 212) rfl)) (zd_X6_value (446, .ifCond .ge 7, 3, 0, []) (List.mem_of_getElem? (i := 213) rfl)) rfl (fun (hc279 : (-1000000000) ≤ 0) => ?_) (fun (hc279 : ¬ ((-1000000000) ≤ 0)) => ?_)
                              · refine zp_load (pc := 453) hx hb (zd_X6_value (453, .aload_n 0, 1, 0, []) (List.mem_of_getElem? (i := 216) rfl)) rfl (j := 7) rfl ?_
                                refine zp_getf (n := (st : Int)) (pc := 454) hx hb hE hw (zd_X6_value (454, .getfield 15, 3, 0, []) (List.mem_of_getElem? (i := 217) rfl)) (j := 5) rfl rfl rfl hp hm.1 ?_
                                refine zp_load (pc := 457) hx hb (zd_X6_value (457, .iload 4, 2, 0, []) (List.mem_of_getElem? (i := 218) rfl)) rfl (j := 2) rfl ?_
                                refine zp_const (pc := 459) hx hb (zd_X6_value (459, .iconst 1, 1, 0, []) (List.mem_of_getElem? (i := 219) rfl)) rfl rfl ?_
                                refine zp_sub (n := (d : Int)) (pc := 460) hx hb (zd_X6_value (460, .isub, 1, 0, []) (List.mem_of_getElem? (i := 220) rfl)) (by omega) (zp_r0 (by omega) (by omega)) ?_
                                refine zp_load (pc := 461) hx hb (zd_X6_value (461, .lload 12, 2, 0, []) (List.mem_of_getElem? (i := 221) rfl)) rfl (j := 0) rfl ?_
                                refine zp_last (j := d) (pc := 463) hx hb hw heff (zd_X6_value (463, .lastore, 1, 0, []) (List.mem_of_getElem? (i := 222) rfl)) (show zp_ia 2 28 = some (64, 1, 0, (-9223372036854775808), 9223372036854775807) from rfl) qst (by omega) (by omega) rfl ?_
                                refine zp_iinc (L' := [(5, 0, ((b : Int) + 2)), (12, 1, 0), (10, 1, v1), (4, 0, ((d : Int) + 1)), (8, 1, v2), (7, 0, (C (b + 1))), (6, 0, 13), (0, 2, (a : Int)), (1, 2, (xt9 : Int)), (2, 0, (i2 : Int)), (3, 2, (wd9 : Int))]) (n := ((b : Int) + 2)) (pc := 464) hx hb hnL (zd_X6_value (464, .iinc 5 2, 3, 0, []) (List.mem_of_getElem? (i := 223) rfl)) (j := 6) rfl (by omega) (zp_r0 (by omega) (by omega)) rfl rfl ?_
                                refine zp_goto (tgt := 13) (pc := 467) hx hb (zd_X6_value (467, .goto (-454), 3, 0, []) (List.mem_of_getElem? (i := 224) rfl)) rfl ?_
                                refine zp_drop (L' := [(4, 0, ((d : Int) + 1)), (5, 0, ((b : Int) + 2)), (0, 2, (a : Int)), (1, 2, (xt9 : Int)), (2, 0, (i2 : Int)), (3, 2, (wd9 : Int))]) (by simp) ?_
                                exact kk 0 _ (zg_bns (fun h => absurd h.1 (by decide)) (by first | exact (zg_v27 v1 v2).1 (by omega) | exact (zg_v27 v1 v2).2 (by omega)) (by omega) (by omega)) (zgV_s hm n1 n2 n3 n4) (fun j hj => zp_set_ne (Or.inr (by omega))) zp_set_self
                              · exfalso
                                omega
                          · refine zp_const (pc := 424) hx hb (zd_X6_value (424, .lconst 1, 1, 0, []) (List.mem_of_getElem? (i := 202) rfl)) rfl rfl ?_
                            refine zp_goto (tgt := 429) (pc := 425) hx hb (zd_X6_value (425, .goto 4, 3, 0, []) (List.mem_of_getElem? (i := 203) rfl)) rfl ?_
                            refine zp_store (L' := [(12, 1, 1), (10, 1, v1), (4, 0, ((d : Int) + 1)), (8, 1, v2), (7, 0, (C (b + 1))), (6, 0, 13), (5, 0, (b : Int)), (0, 2, (a : Int)), (1, 2, (xt9 : Int)), (2, 0, (i2 : Int)), (3, 2, (wd9 : Int))]) (pc := 429) hx hb hnL (zd_X6_value (429, .lstore 12, 2, 0, []) (List.mem_of_getElem? (i := 205) rfl)) rfl rfl rfl ?_
                            refine zp_load (pc := 431) hx hb (zd_X6_value (431, .lload 12, 2, 0, []) (List.mem_of_getElem? (i := 206) rfl)) rfl (j := 0) rfl ?_
                            refine zp_ldc2 (pc := 433) hx hb hE (zd_X6_value (433, .ldc2_w 89, 3, 0, []) (List.mem_of_getElem? (i := 207) rfl)) (j := 13) rfl ?_
                            refine zp_lcmp (pc := 436) (tgt := 449) hx hb (zd_X6_value (436, .lcmp, 1, 0, []) (List.mem_of_getElem? (i := 208) rfl)) (zd_X6_value (437, .ifCond .gt 12, 3, 0, []) (List.mem_of_getElem? (i := 209) rfl)) rfl (fun (hc280 : 1000000000 < 1) => ?_) (fun (hc280 : ¬ (1000000000 < 1)) => ?_)
                            · exfalso
                              omega
                            · refine zp_load (pc := 440) hx hb (zd_X6_value (440, .lload 12, 2, 0, []) (List.mem_of_getElem? (i := 210) rfl)) rfl (j := 0) rfl ?_
                              refine zp_ldc2 (pc := 442) hx hb hE (zd_X6_value (442, .ldc2_w 91, 3, 0, []) (List.mem_of_getElem? (i := 211) rfl)) (j := 14) rfl ?_
                              refine zp_lcmp (pc := 445) (tgt := 453) hx hb (zd_X6_value (445, .lcmp, 1, 0, []) (List.mem_of_getElem? (i := 212) rfl)) (zd_X6_value (446, .ifCond .ge 7, 3, 0, []) (List.mem_of_getElem? (i := 213) rfl)) rfl (fun (hc281 : (-1000000000) ≤ 1) => ?_) (fun (hc281 : ¬ ((-1000000000) ≤ 1)) => ?_)
                              · refine zp_load (pc := 453) hx hb (zd_X6_value (453, .aload_n 0, 1, 0, []) (List.mem_of_getElem? (i := 216) rfl)) rfl (j := 7) rfl ?_
                                refine zp_getf (n := (st : Int)) (pc := 454) hx hb hE hw (zd_X6_value (454, .getfield 15, 3, 0, []) (List.mem_of_getElem? (i := 217) rfl)) (j := 5) rfl rfl rfl hp hm.1 ?_
                                refine zp_load (pc := 457) hx hb (zd_X6_value (457, .iload 4, 2, 0, []) (List.mem_of_getElem? (i := 218) rfl)) rfl (j := 2) rfl ?_
                                refine zp_const (pc := 459) hx hb (zd_X6_value (459, .iconst 1, 1, 0, []) (List.mem_of_getElem? (i := 219) rfl)) rfl rfl ?_
                                refine zp_sub (n := (d : Int)) (pc := 460) hx hb (zd_X6_value (460, .isub, 1, 0, []) (List.mem_of_getElem? (i := 220) rfl)) (by omega) (zp_r0 (by omega) (by omega)) ?_
                                refine zp_load (pc := 461) hx hb (zd_X6_value (461, .lload 12, 2, 0, []) (List.mem_of_getElem? (i := 221) rfl)) rfl (j := 0) rfl ?_
                                refine zp_last (j := d) (pc := 463) hx hb hw heff (zd_X6_value (463, .lastore, 1, 0, []) (List.mem_of_getElem? (i := 222) rfl)) (show zp_ia 2 28 = some (64, 1, 0, (-9223372036854775808), 9223372036854775807) from rfl) qst (by omega) (by omega) rfl ?_
                                refine zp_iinc (L' := [(5, 0, ((b : Int) + 2)), (12, 1, 1), (10, 1, v1), (4, 0, ((d : Int) + 1)), (8, 1, v2), (7, 0, (C (b + 1))), (6, 0, 13), (0, 2, (a : Int)), (1, 2, (xt9 : Int)), (2, 0, (i2 : Int)), (3, 2, (wd9 : Int))]) (n := ((b : Int) + 2)) (pc := 464) hx hb hnL (zd_X6_value (464, .iinc 5 2, 3, 0, []) (List.mem_of_getElem? (i := 223) rfl)) (j := 6) rfl (by omega) (zp_r0 (by omega) (by omega)) rfl rfl ?_
                                refine zp_goto (tgt := 13) (pc := 467) hx hb (zd_X6_value (467, .goto (-454), 3, 0, []) (List.mem_of_getElem? (i := 224) rfl)) rfl ?_
                                refine zp_drop (L' := [(4, 0, ((d : Int) + 1)), (5, 0, ((b : Int) + 2)), (0, 2, (a : Int)), (1, 2, (xt9 : Int)), (2, 0, (i2 : Int)), (3, 2, (wd9 : Int))]) (by simp) ?_
                                exact kk 1 _ (zg_bns (fun h => absurd h.1 (by decide)) (by first | exact (zg_v27 v1 v2).1 (by omega) | exact (zg_v27 v1 v2).2 (by omega)) (by omega) (by omega)) (zgV_s hm n1 n2 n3 n4) (fun j hj => zp_set_ne (Or.inr (by omega))) zp_set_self
                              · exfalso
                                omega
                        · exfalso
                          omega
                      · exfalso
                        omega
                  · exfalso
                    omega
                · exfalso
                  omega
              · exfalso
                omega
            · exfalso
              omega
  have run : ∀ (f b e1 k9 : Nat) (y : yD), yG false C f b e1 k9 y → e1 ≤ e9 → ∀ (d : Nat) (S : Nat → Int) (G : Nat → Nat → Int), d + k9 ≤ 60 → (∀ j, j < d → -2147483648 ≤ S j ∧ S j ≤ 2147483648) → zgV a xt9 cd st wd9 N C Wd G → (∀ j, j < d → G st (2000 + j) = S j) → (∀ (v : Int) (G' : Nat → Nat → Int), y en = some v → -2147483648 ≤ v ∧ v ≤ 2147483648 → zgV a xt9 cd st wd9 N C Wd G' → (∀ j, j < d → G' st (2000 + j) = S j) → G' st (2000 + d) = v → zp_J p l e R s m args below meth c Q w u [] 13 [(4, 0, ((d + 1 : Nat) : Int)), (5, 0, ((e1 : Nat) : Int)), (0, 2, (a : Int)), (1, 2, (xt9 : Int)), (2, 0, (i2 : Int)), (3, 2, (wd9 : Int))] [] u.1 G') → (y en = none → x en = none) → zp_J p l e R s m args below meth c Q w u [] 13 [(4, 0, ((d : Nat) : Int)), (5, 0, ((b : Nat) : Int)), (0, 2, (a : Int)), (1, 2, (xt9 : Int)), (2, 0, (i2 : Int)), (3, 2, (wd9 : Int))] [] u.1 G := by
    clear exitv
    intro f
    induction f with
    | zero => intro b e1 k9 y h; exact h.elim
    | succ f ih =>
      intro b e1 k9 y h he1 d S G hd hS hm hst kv kb
      have hlt := yG_lt h
      rcases h with ⟨g1, g2, g3, g5⟩ | ⟨m9, e2, k1, k2, y1, y2, g1, g2, g3, g4, g5, g6, g7⟩ | ⟨e2, y1, g1, g2, g3, g4, g5⟩ | ⟨m9, k1, k2, y1, y2, g1, g2, g3, g4, g5, g6, g7⟩ | ⟨m9, k1, k2, y1, y2, g1, g2, g3, g4, g5, g6, g7⟩
      · have hv := hen (C b) (C (b + 1)) g3
        have hyv : y en = some (en (yl_o false (C b) (C (b + 1))) (yl_a false (C b) (C (b + 1)))) := by rw [g5]; rfl
        rw [hv] at hyv
        subst g1
        rcases g3 with ⟨c1, c2, c3⟩ | ⟨c1, c2, c3⟩
        · rw [if_pos c1] at hyv
          exact step_l1 b d (C (b + 1)) G (by omega) (by omega) hm c1 rfl (fun G' m' s' t' => kv _ G' hyv (by omega) m' (fun j hj => (s' j hj).trans (hst j hj)) t')
        · rw [if_neg (by omega)] at hyv
          obtain ⟨vq, hvq⟩ := zp_nat c2
          have c3 : C (b + 1) < 9 := c3
          rw [hvq, Int.toNat_natCast] at hyv
          exact step_l2 b d vq G (by omega) (by omega) hm c1 hvq (by omega) (fun G' m' s' t' => kv _ G' hyv (hWd vq (by omega)) m' (fun j hj => (s' j hj).trans (hst j hj)) t')
      · have l1 := yG_lt g2
        have l2 := yG_lt g3
        subst g1
        have hyn1 : y1 en = none → x en = none := fun hn => kb (by
          rw [g7]
          show ((y1 en).bind fun a => (y2 en).bind fun b => yd_bn (C e2 + 14) a b) = none
          rw [hn]
          rfl)
        refine ih b m9 k1 y1 g2 (by omega) d S G (by omega) hS hm hst (fun v1 G1 c1 c2 m1 c4 c5 => ?_) hyn1
        have hyn2 : y2 en = none → x en = none := fun hn => kb (by
          rw [g7]
          show ((y1 en).bind fun a => (y2 en).bind fun b => yd_bn (C e2 + 14) a b) = none
          rw [c1, hn]
          rfl)
        refine ih m9 e2 k2 y2 g3 (by omega) (d + 1) (fun j => if j = d then v1 else S j) G1 (by omega) (fun j hj => ?_) m1 (fun j hj => ?_) (fun v2 G2 b1 b2 m2 b4 b5 => ?_) hyn2
        · by_cases hjd : j = d
          · rw [if_pos hjd]
            exact c2
          · rw [if_neg hjd]
            exact hS j (by omega)
        · by_cases hjd : j = d
          · rw [if_pos hjd, hjd]
            exact c5
          · rw [if_neg hjd]
            exact c4 j (by omega)
        · have s4 : ∀ j, j < d → G2 st (2000 + j) = S j := fun j hj => (b4 j (by omega)).trans (if_neg (by omega))
          have s5 : G2 st (2000 + d) = v1 := (b4 d (by omega)).trans (if_pos rfl)
          have hb9 : ∀ r, yd_bn (C e2 + 14) v1 v2 = r → y en = r := fun r hr => by
            rw [g7]
            show ((y1 en).bind fun a => (y2 en).bind fun b => yd_bn (C e2 + 14) a b) = r
            rw [c1, b1]
            exact hr
          have hop : C e2 = 6 ∨ C e2 = 7 ∨ C e2 = 8 ∨ C e2 = 9 ∨ C e2 = 10 ∨ C e2 = 11 ∨ C e2 = 12 ∨ C e2 = 13 := by omega
          have hkv : ∀ (v : Int) (G' : Nat → Nat → Int), yd_bn (C e2 + 14) v1 v2 = some v → zgV a xt9 cd st wd9 N C Wd G' → (∀ j, j < d → G' st (2000 + j) = G2 st (2000 + j)) → G' st (2000 + d) = v → zp_J p l e R s m args below meth c Q w u [] 13 [(4, 0, ((d + 1 : Nat) : Int)), (5, 0, ((e2 + 2 : Nat) : Int)), (0, 2, (a : Int)), (1, 2, (xt9 : Int)), (2, 0, (i2 : Int)), (3, 2, (wd9 : Int))] [] u.1 G' := fun v G' a1 a2 a4 a5 => kv v G' (hb9 _ a1) (by have := zg_bnr a1; omega) a2 (fun j hj => (a4 j hj).trans (s4 j hj)) a5
          have hkb : yd_bn (C e2 + 14) v1 v2 = none → x en = none := fun a1 => kb (hb9 _ a1)
          rcases hop with hop | hop | hop | hop | hop | hop | hop | hop
          · rw [hop] at hkv hkb
            exact step_6 e2 d v1 v2 G2 (by omega) (by omega) m2 hop s5 b5 c2 b2 hkv hkb
          · rw [hop] at hkv hkb
            exact step_7 e2 d v1 v2 G2 (by omega) (by omega) m2 hop s5 b5 c2 b2 hkv hkb
          · rw [hop] at hkv hkb
            exact step_8 e2 d v1 v2 G2 (by omega) (by omega) m2 hop s5 b5 c2 b2 hkv hkb
          · rw [hop] at hkv hkb
            exact step_9 e2 d v1 v2 G2 (by omega) (by omega) m2 hop s5 b5 c2 b2 hkv hkb
          · rw [hop] at hkv hkb
            exact step_10 e2 d v1 v2 G2 (by omega) (by omega) m2 hop s5 b5 c2 b2 hkv hkb
          · rw [hop] at hkv hkb
            exact step_11 e2 d v1 v2 G2 (by omega) (by omega) m2 hop s5 b5 c2 b2 hkv hkb
          · rw [hop] at hkv hkb
            exact step_12 e2 d v1 v2 G2 (by omega) (by omega) m2 hop s5 b5 c2 b2 hkv hkb
          · rw [hop] at hkv hkb
            exact step_13 e2 d v1 v2 G2 (by omega) (by omega) m2 hop s5 b5 c2 b2 hkv hkb
      · have l1 := yG_lt g2
        subst g1
        refine ih b e2 k9 y1 g2 (by omega) d S G (by omega) hS hm hst (fun v1 G1 c1 c2 m1 c4 c5 => ?_) (fun hn => kb (by
          rw [g5]
          show ((y1 en).bind fun v => some (1 - v)) = none
          rw [hn]
          rfl))
        have ht := g4 en v1 c1
        refine step_nt e2 d v1 G1 (by omega) (by omega) m1 g3 c5 c2 (fun G' a1 a3 a4 => kv (1 - v1) G' ?_ (by omega) a1 (fun j hj => (a3 j hj).trans (c4 j hj)) a4)
        rw [g5]
        show ((y1 en).bind fun v => some (1 - v)) = _
        rw [c1]
        rfl
      · have l1 := yG_lt g1
        have l2 := yG_lt g4
        refine ih b m9 k1 y1 g1 (by omega) d S G (by omega) hS hm hst (fun v1 G1 c1 c2 m1 c4 c5 => ?_) (fun hn => kb (by
          rw [g7]
          show ((y1 en).bind fun v => if v = 0 then some 0 else y2 en) = none
          rw [hn]
          rfl))
        have hb9 : y en = if v1 = 0 then some 0 else y2 en := by
          rw [g7]
          show ((y1 en).bind fun v => if v = 0 then some 0 else y2 en) = _
          rw [c1]
          rfl
        refine step_b4 m9 d e1 v1 G1 (by omega) (by omega) (by omega) (by omega) m1 g2 g3 c5 (g5 en v1 c1) (fun hv => ?_) (fun hv => ?_)
        · refine kv v1 G1 ?_ c2 m1 c4 c5
          rw [hb9, if_pos hv, hv]
        · rw [if_neg hv] at hb9
          exact ih (m9 + 2) e1 k2 y2 g4 he1 d S G1 (by omega) hS m1 c4 (fun v G' a1 a2 a3 a5 a6 => kv v G' (hb9.trans a1) a2 a3 a5 a6) (fun hn => kb (hb9.trans hn))
      · have l1 := yG_lt g1
        have l2 := yG_lt g4
        refine ih b m9 k1 y1 g1 (by omega) d S G (by omega) hS hm hst (fun v1 G1 c1 c2 m1 c4 c5 => ?_) (fun hn => kb (by
          rw [g7]
          show ((y1 en).bind fun v => if v = 1 then some 1 else y2 en) = none
          rw [hn]
          rfl))
        have hb9 : y en = if v1 = 1 then some 1 else y2 en := by
          rw [g7]
          show ((y1 en).bind fun v => if v = 1 then some 1 else y2 en) = _
          rw [c1]
          rfl
        refine step_b5 m9 d e1 v1 G1 (by omega) (by omega) (by omega) (by omega) m1 g2 g3 c5 (g5 en v1 c1) (fun hv => ?_) (fun hv => ?_)
        · refine kv v1 G1 ?_ c2 m1 c4 c5
          rw [hb9, if_pos hv, hv]
        · rw [if_neg hv] at hb9
          exact ih (m9 + 2) e1 k2 y2 g4 he1 d S G1 (by omega) hS m1 c4 (fun v G' a1 a2 a3 a5 a6 => kv v G' (hb9.trans a1) a2 a3 a5 a6) (fun hn => kb (hb9.trans hn))
  have hl0 := yG_lt hE0
  show zp_J p l e R s m args below meth c Q w u [] 0 [(0, 2, (a : Int)), (1, 2, (xt9 : Int)), (2, 0, (i2 : Int)), (3, 2, (wd9 : Int))] [] u.1 (zp_n u.2.1)
  refine zp_load (pc := 0) hx hb (zd_X6_value (0, .iload_n 2, 1, 0, []) (List.mem_of_getElem? (i := 0) rfl)) rfl (j := 2) rfl ?_
  refine zp_const (pc := 1) hx hb (zd_X6_value (1, .iconst (-1), 1, 0, []) (List.mem_of_getElem? (i := 1) rfl)) rfl rfl ?_
  refine zp_icmp (pc := 2) (tgt := 7) hx hb (zd_X6_value (2, .if_icmp .ne 5, 3, 0, []) (List.mem_of_getElem? (i := 2) rfl)) rfl (fun (hc282 : ¬ (i2 : Int) = (-1)) => ?_) (fun (hc282 : ¬ (¬ (i2 : Int) = (-1))) => ?_)
  · refine zp_const (pc := 7) hx hb (zd_X6_value (7, .iconst 0, 1, 0, []) (List.mem_of_getElem? (i := 5) rfl)) rfl rfl ?_
    refine zp_store (L' := [(4, 0, 0), (0, 2, (a : Int)), (1, 2, (xt9 : Int)), (2, 0, (i2 : Int)), (3, 2, (wd9 : Int))]) (pc := 8) hx hb hnL (zd_X6_value (8, .istore 4, 2, 0, []) (List.mem_of_getElem? (i := 6) rfl)) rfl rfl rfl ?_
    refine zp_load (pc := 10) hx hb (zd_X6_value (10, .iload_n 2, 1, 0, []) (List.mem_of_getElem? (i := 7) rfl)) rfl (j := 3) rfl ?_
    refine zp_store (L' := [(5, 0, (i2 : Int)), (4, 0, 0), (0, 2, (a : Int)), (1, 2, (xt9 : Int)), (2, 0, (i2 : Int)), (3, 2, (wd9 : Int))]) (pc := 11) hx hb hnL (zd_X6_value (11, .istore 5, 2, 0, []) (List.mem_of_getElem? (i := 8) rfl)) rfl rfl rfl ?_
    refine zp_drop (L' := [(4, 0, 0), (5, 0, (i2 : Int)), (0, 2, (a : Int)), (1, 2, (xt9 : Int)), (2, 0, (i2 : Int)), (3, 2, (wd9 : Int))]) (by simp) ?_
    refine run f i2 e9 k x hE0 (Nat.le_refl _) 0 (fun _ => 0) _ (by omega) (fun j hj => absurd hj (Nat.not_lt_zero j)) hm0 (fun j hj => absurd hj (Nat.not_lt_zero j)) (fun v G' c1 c2 c3 _ c6 => exitv v G' c3 c6 c2 c1) (fun h => h)
  · exfalso
    omega
noncomputable def zK_vao : zk_K := (zt_mn 84, prog_8_method_12_code, 14, (Option.some Jvm.ClassFile.FieldType.long), 1, 6, [(2, 6, 0, 0), (2, 8, 0, 0), (0, 0, (-1), 872), (2, 56, 0, 0)], [(some (1, 0, (-9223372036854775808), 9223372036854775807), [])], [(28, 1001, 0)], (0, 0, 0, 0))
noncomputable def zφ_vao (xt cd st wd N f e9 k : Nat) (C Wd : Nat → Int) (en : Int → Int → Int) (x : yD) : (Nat → Option Nat) → (Nat → Nat → Int) → List Int → Prop := fun P G ps => zgV (zp_0 ps) xt cd st wd N C Wd G ∧ (ps.getD 1 0) = (xt : Int) ∧ (ps.getD 3 0) = (wd : Int) ∧ P cd = some 35 ∧ P st = some 28 ∧ 0 ≤ (ps.getD 2 0) ∧ N ≤ 872 ∧ e9 + 1 < N ∧ C e9 = 0 ∧ (∀ j, j < 21 → -2147483648 ≤ Wd j ∧ Wd j ≤ 2147483648) ∧ (∀ s v, yl_ok true s v → en (yl_o true s v) (yl_a true s v) = if s = 1 then v else Wd v.toNat) ∧ yG true C f (ps.getD 2 0).toNat e9 k x ∧ k ≤ 60
noncomputable def zψ_vao (xt cd st wd N f e9 k : Nat) (C Wd : Nat → Int) (en : Int → Int → Int) (x : yD) : (Nat → Option Nat) → (Nat → Nat → Int) → List Int → (Nat → Option Nat) → (Nat → Nat → Int) → Int → Prop := fun P G ps P' G' rn => P' = P ∧ (∀ v, x en = some v → (-2147483648 ≤ v ∧ v ≤ 2147483648) ∧ rn = v) ∧ (x en = none → rn = (-9000000000))
set_option maxHeartbeats 4000000 in
theorem zX_vao {l : Launch} {w : zk_W} (hW : zh_W w) (xt cd st wd N f e9 k : Nat) (C Wd : Nat → Int) (en : Int → Int → Int) (x : yD) : zk_metX l w zt_dv zt_TB zK_vao (zp_A (zφ_vao xt cd st wd N f e9 k C Wd en x)) (zp_B (zψ_vao xt cd st wd N f e9 k C Wd en x)) ∧ zk_cok w zt_TB zK_vao := by
  refine zp_methX (cn := "WoundTown$Rules") zp_lkallRu hW (pl := 910) rfl (by decide +kernel) (fun p e R s m args below meth c Q u hx hb hE hQ hU5 heff hnL hok hφ => ?_)
  have hw := hW.1
  obtain ⟨p0, p1, p2, p3, hps, k0, k1, k2, k3⟩ := zp_ps4 hok
  obtain ⟨a, rfl, hp⟩ := zp_this k0
  have hrm : zk_Kr (zk_ev (zt_types, zp_lkRu, zt_dv, [], [], zp_lcRu, zK_vao)) = zk_Kr zK_vao := rfl
  rw [hps] at hφ ⊢
  have hi2 := zp_int k2
  have hφ : zgV a xt cd st wd N C Wd (zp_n u.2.1) ∧ p1 = (xt : Int) ∧ p3 = (wd : Int) ∧ u.1 cd = some 35 ∧ u.1 st = some 28 ∧ 0 ≤ p2 ∧ N ≤ 872 ∧ e9 + 1 < N ∧ C e9 = 0 ∧ (∀ j, j < 21 → -2147483648 ≤ Wd j ∧ Wd j ≤ 2147483648) ∧ (∀ s v, yl_ok true s v → en (yl_o true s v) (yl_a true s v) = if s = 1 then v else Wd v.toNat) ∧ yG true C f p2.toNat e9 k x ∧ k ≤ 60 := hφ
  obtain ⟨hm0, e1_, e3_, qcd, qst, s0, hN, he9, hC9, hWd, hen, hE0, hk60⟩ := hφ
  subst e1_ e3_
  obtain ⟨i2, rfl⟩ := zp_nat s0
  rw [Int.toNat_natCast] at hE0
  obtain ⟨xt9, ext, qxt⟩ := zp_this k1
  obtain rfl : xt9 = xt := by omega
  obtain ⟨wd9, ewd, qwd⟩ := zp_this k3
  obtain rfl : wd9 = wd := by omega
  have n1 : a ≠ st := zp_pne hp qst (by decide)
  have n2 : xt9 ≠ st := zp_pne qxt qst (by decide)
  have n3 : cd ≠ st := zp_pne qcd qst (by decide)
  have n4 : wd9 ≠ st := zp_pne qwd qst (by decide)
  have step_l1 : ∀ (b d : Nat) (av : Int) (G : Nat → Nat → Int), b + 1 < e9 + 2 → d < 64 → zgV a xt9 cd st wd9 N C Wd G → C b = 1 → C (b + 1) = av → (∀ G' : Nat → Nat → Int, zgV a xt9 cd st wd9 N C Wd G' → (∀ j, j < d → G' st (2000 + j) = G st (2000 + j)) → G' st (2000 + d) = av → zp_J p l e R s m args below meth c Q w u [] 13 [(4, 0, ((d + 1 : Nat) : Int)), (5, 0, ((b + 2 : Nat) : Int)), (0, 2, (a : Int)), (1, 2, (xt9 : Int)), (2, 0, (i2 : Int)), (3, 2, (wd9 : Int))] [] u.1 G') → zp_J p l e R s m args below meth c Q w u [] 13 [(4, 0, ((d : Nat) : Int)), (5, 0, ((b : Nat) : Int)), (0, 2, (a : Int)), (1, 2, (xt9 : Int)), (2, 0, (i2 : Int)), (3, 2, (wd9 : Int))] [] u.1 G := by
    intro b d av G hb2 hd hm o1 o2 kk
    have ho1 : G cd (2000 + b) = 1 := (hm.2.2.2.1 b).trans o1
    refine zp_drop (L' := [(4, 0, (d : Int)), (5, 0, (b : Int)), (0, 2, (a : Int)), (1, 2, (xt9 : Int)), (2, 0, (i2 : Int)), (3, 2, (wd9 : Int))]) (by simp <;> omega) ?_
    have hl13 := hm.2.2.1
    refine zp_load (pc := 13) hx hb (zd_X6_value (13, .iload 5, 2, 0, []) (List.mem_of_getElem? (i := 9) rfl)) rfl (j := 1) rfl ?_
    refine zp_if (pc := 15) (tgt := 470) hx hb (zd_X6_value (15, .ifCond .lt 455, 3, 0, []) (List.mem_of_getElem? (i := 10) rfl)) rfl (fun (hc283 : (b : Int) < 0) => ?_) (fun (hc283 : ¬ ((b : Int) < 0)) => ?_)
    · exfalso
      omega
    · refine zp_load (pc := 18) hx hb (zd_X6_value (18, .iload 5, 2, 0, []) (List.mem_of_getElem? (i := 11) rfl)) rfl (j := 1) rfl ?_
      refine zp_const (pc := 20) hx hb (zd_X6_value (20, .iconst 1, 1, 0, []) (List.mem_of_getElem? (i := 12) rfl)) rfl rfl ?_
      refine zp_add (n := ((b : Int) + 1)) (pc := 21) hx hb (zd_X6_value (21, .iadd, 1, 0, []) (List.mem_of_getElem? (i := 13) rfl)) (by omega) (zp_r0 (by omega) (by omega)) ?_
      refine zp_load (pc := 22) hx hb (zd_X6_value (22, .aload_n 1, 1, 0, []) (List.mem_of_getElem? (i := 14) rfl)) rfl (j := 3) rfl ?_
      refine zp_getf (n := (cd : Int)) (pc := 23) hx hb hE hw (zd_X6_value (23, .getfield 86, 3, 0, []) (List.mem_of_getElem? (i := 15) rfl)) (j := 10) rfl rfl rfl qxt hm.2.1 ?_
      refine zp_alenN (N := N) (pc := 26) hx hb hw (zd_X6_value (26, .arraylength, 1, 0, []) (List.mem_of_getElem? (i := 16) rfl)) qcd ⟨_, rfl, by decide, by decide⟩ hm.2.2.1 ?_
      refine zp_icmp (pc := 27) (tgt := 470) hx hb (zd_X6_value (27, .if_icmp .ge 443, 3, 0, []) (List.mem_of_getElem? (i := 17) rfl)) rfl (fun (hc284 : (N : Int) ≤ ((b : Int) + 1)) => ?_) (fun (hc284 : ¬ ((N : Int) ≤ ((b : Int) + 1))) => ?_)
      · exfalso
        omega
      · refine zp_load (pc := 30) hx hb (zd_X6_value (30, .iload 4, 2, 0, []) (List.mem_of_getElem? (i := 18) rfl)) rfl (j := 0) rfl ?_
        refine zp_const (pc := 32) hx hb (zd_X6_value (32, .bipush 64, 2, 0, []) (List.mem_of_getElem? (i := 19) rfl)) rfl rfl ?_
        refine zp_icmp (pc := 34) (tgt := 470) hx hb (zd_X6_value (34, .if_icmp .ge 436, 3, 0, []) (List.mem_of_getElem? (i := 20) rfl)) rfl (fun (hc285 : 64 ≤ (d : Int)) => ?_) (fun (hc285 : ¬ (64 ≤ (d : Int))) => ?_)
        · exfalso
          omega
        · refine zp_load (pc := 37) hx hb (zd_X6_value (37, .aload_n 1, 1, 0, []) (List.mem_of_getElem? (i := 21) rfl)) rfl (j := 3) rfl ?_
          refine zp_getf (n := (cd : Int)) (pc := 38) hx hb hE hw (zd_X6_value (38, .getfield 86, 3, 0, []) (List.mem_of_getElem? (i := 22) rfl)) (j := 10) rfl rfl rfl qxt hm.2.1 ?_
          refine zp_load (pc := 41) hx hb (zd_X6_value (41, .iload 5, 2, 0, []) (List.mem_of_getElem? (i := 23) rfl)) rfl (j := 1) rfl ?_
          refine zp_ialdN (j := b) (v := 1) (N := N) (pc := 43) hx hb hw (zd_X6_value (43, .iaload, 1, 0, []) (List.mem_of_getElem? (i := 24) rfl)) (show zp_ia 1 35 = some (872, 0, 0, (-1000000), 1000000) from rfl) ⟨_, rfl, by decide⟩ hm.2.2.1 qcd (by omega) (by omega) ho1 (fun hk286 => ?_)
          have hk286b := zp_int hk286
          refine zp_store (L' := [(6, 0, 1), (4, 0, (d : Int)), (5, 0, (b : Int)), (0, 2, (a : Int)), (1, 2, (xt9 : Int)), (2, 0, (i2 : Int)), (3, 2, (wd9 : Int))]) (pc := 44) hx hb hnL (zd_X6_value (44, .istore 6, 2, 0, []) (List.mem_of_getElem? (i := 25) rfl)) rfl rfl rfl ?_
          refine zp_load (pc := 46) hx hb (zd_X6_value (46, .aload_n 1, 1, 0, []) (List.mem_of_getElem? (i := 26) rfl)) rfl (j := 4) rfl ?_
          refine zp_getf (n := (cd : Int)) (pc := 47) hx hb hE hw (zd_X6_value (47, .getfield 86, 3, 0, []) (List.mem_of_getElem? (i := 27) rfl)) (j := 10) rfl rfl rfl qxt hm.2.1 ?_
          refine zp_load (pc := 50) hx hb (zd_X6_value (50, .iload 5, 2, 0, []) (List.mem_of_getElem? (i := 28) rfl)) rfl (j := 2) rfl ?_
          refine zp_const (pc := 52) hx hb (zd_X6_value (52, .iconst 1, 1, 0, []) (List.mem_of_getElem? (i := 29) rfl)) rfl rfl ?_
          refine zp_add (n := ((b : Int) + 1)) (pc := 53) hx hb (zd_X6_value (53, .iadd, 1, 0, []) (List.mem_of_getElem? (i := 30) rfl)) (by omega) (zp_r0 (by omega) (by omega)) ?_
          refine zp_ialdN (j := (b + 1)) (v := av) (N := N) (pc := 54) hx hb hw (zd_X6_value (54, .iaload, 1, 0, []) (List.mem_of_getElem? (i := 31) rfl)) (show zp_ia 1 35 = some (872, 0, 0, (-1000000), 1000000) from rfl) ⟨_, rfl, by decide⟩ hm.2.2.1 qcd (by omega) (by omega) ((hm.2.2.2.1 (b + 1)).trans o2) (fun hk287 => ?_)
          have hk287b := zp_int hk287
          refine zp_store (L' := [(7, 0, av), (6, 0, 1), (4, 0, (d : Int)), (5, 0, (b : Int)), (0, 2, (a : Int)), (1, 2, (xt9 : Int)), (2, 0, (i2 : Int)), (3, 2, (wd9 : Int))]) (pc := 55) hx hb hnL (zd_X6_value (55, .istore 7, 2, 0, []) (List.mem_of_getElem? (i := 32) rfl)) rfl rfl rfl ?_
          refine zp_load (pc := 57) hx hb (zd_X6_value (57, .iload 6, 2, 0, []) (List.mem_of_getElem? (i := 33) rfl)) rfl (j := 1) rfl ?_
          refine zp_const (pc := 59) hx hb (zd_X6_value (59, .iconst 1, 1, 0, []) (List.mem_of_getElem? (i := 34) rfl)) rfl rfl ?_
          refine zp_icmp (pc := 60) (tgt := 69) hx hb (zd_X6_value (60, .if_icmp .eq 9, 3, 0, []) (List.mem_of_getElem? (i := 35) rfl)) rfl (fun (hc288 : 1 = 1) => ?_) (fun (hc288 : ¬ (1 = 1)) => ?_)
          · refine zp_load (pc := 69) hx hb (zd_X6_value (69, .iload 6, 2, 0, []) (List.mem_of_getElem? (i := 39) rfl)) rfl (j := 1) rfl ?_
            refine zp_const (pc := 71) hx hb (zd_X6_value (71, .iconst 2, 1, 0, []) (List.mem_of_getElem? (i := 40) rfl)) rfl rfl ?_
            refine zp_icmp (pc := 72) (tgt := 91) hx hb (zd_X6_value (72, .if_icmp .ne 19, 3, 0, []) (List.mem_of_getElem? (i := 41) rfl)) rfl (fun (hc289 : ¬ 1 = 2) => ?_) (fun (hc289 : ¬ (¬ 1 = 2)) => ?_)
            · refine zp_const (pc := 91) hx hb (zd_X6_value (91, .iconst 0, 1, 0, []) (List.mem_of_getElem? (i := 50) rfl)) rfl rfl ?_
              refine zp_store (L' := [(8, 0, 0), (7, 0, av), (6, 0, 1), (4, 0, (d : Int)), (5, 0, (b : Int)), (0, 2, (a : Int)), (1, 2, (xt9 : Int)), (2, 0, (i2 : Int)), (3, 2, (wd9 : Int))]) (pc := 92) hx hb hnL (zd_X6_value (92, .istore 8, 2, 0, []) (List.mem_of_getElem? (i := 51) rfl)) rfl rfl rfl ?_
              refine zp_load (pc := 94) hx hb (zd_X6_value (94, .aload_n 0, 1, 0, []) (List.mem_of_getElem? (i := 52) rfl)) rfl (j := 5) rfl ?_
              refine zp_getf (n := (st : Int)) (pc := 95) hx hb hE hw (zd_X6_value (95, .getfield 15, 3, 0, []) (List.mem_of_getElem? (i := 53) rfl)) (j := 5) rfl rfl rfl hp hm.1 ?_
              refine zp_load (pc := 98) hx hb (zd_X6_value (98, .iload 4, 2, 0, []) (List.mem_of_getElem? (i := 54) rfl)) rfl (j := 3) rfl ?_
              refine zp_load (pc := 100) hx hb (zd_X6_value (100, .iload 8, 2, 0, []) (List.mem_of_getElem? (i := 55) rfl)) rfl (j := 0) rfl ?_
              refine zp_if (pc := 102) (tgt := 113) hx hb (zd_X6_value (102, .ifCond .eq 11, 3, 0, []) (List.mem_of_getElem? (i := 56) rfl)) rfl (fun (hc290 : 0 = 0) => ?_) (fun (hc290 : ¬ (0 = 0)) => ?_)
              · refine zp_load (pc := 113) hx hb (zd_X6_value (113, .iload 7, 2, 0, []) (List.mem_of_getElem? (i := 62) rfl)) rfl (j := 1) rfl ?_
                refine zp_i2l (pc := 115) hx hb (zd_X6_value (115, .i2l, 1, 0, []) (List.mem_of_getElem? (i := 63) rfl)) ?_
                refine zp_last (j := d) (pc := 116) hx hb hw heff (zd_X6_value (116, .lastore, 1, 0, []) (List.mem_of_getElem? (i := 64) rfl)) (show zp_ia 2 28 = some (64, 1, 0, (-9223372036854775808), 9223372036854775807) from rfl) qst (by omega) (by omega) rfl ?_
                refine zp_iinc (L' := [(4, 0, ((d : Int) + 1)), (8, 0, 0), (7, 0, av), (6, 0, 1), (5, 0, (b : Int)), (0, 2, (a : Int)), (1, 2, (xt9 : Int)), (2, 0, (i2 : Int)), (3, 2, (wd9 : Int))]) (n := ((d : Int) + 1)) (pc := 117) hx hb hnL (zd_X6_value (117, .iinc 4 1, 3, 0, []) (List.mem_of_getElem? (i := 65) rfl)) (j := 3) rfl (by omega) (zp_r0 (by omega) (by omega)) rfl rfl ?_
                refine zp_goto (tgt := 464) (pc := 120) hx hb (zd_X6_value (120, .goto 344, 3, 0, []) (List.mem_of_getElem? (i := 66) rfl)) rfl ?_
                refine zp_iinc (L' := [(5, 0, ((b : Int) + 2)), (4, 0, ((d : Int) + 1)), (8, 0, 0), (7, 0, av), (6, 0, 1), (0, 2, (a : Int)), (1, 2, (xt9 : Int)), (2, 0, (i2 : Int)), (3, 2, (wd9 : Int))]) (n := ((b : Int) + 2)) (pc := 464) hx hb hnL (zd_X6_value (464, .iinc 5 2, 3, 0, []) (List.mem_of_getElem? (i := 223) rfl)) (j := 4) rfl (by omega) (zp_r0 (by omega) (by omega)) rfl rfl ?_
                refine zp_goto (tgt := 13) (pc := 467) hx hb (zd_X6_value (467, .goto (-454), 3, 0, []) (List.mem_of_getElem? (i := 224) rfl)) rfl ?_
                refine zp_drop (L' := [(4, 0, ((d : Int) + 1)), (5, 0, ((b : Int) + 2)), (0, 2, (a : Int)), (1, 2, (xt9 : Int)), (2, 0, (i2 : Int)), (3, 2, (wd9 : Int))]) (by simp) ?_
                exact kk _ (zgV_s hm n1 n2 n3 n4) (fun j hj => zp_set_ne (Or.inr (by omega))) zp_set_self
              · exfalso
                omega
            · exfalso
              omega
          · exfalso
            omega
  have step_l2 : ∀ (b d vq : Nat) (G : Nat → Nat → Int), b + 1 < e9 + 2 → d < 64 → zgV a xt9 cd st wd9 N C Wd G → C b = 2 → C (b + 1) = (vq : Int) → vq < 21 → (∀ G' : Nat → Nat → Int, zgV a xt9 cd st wd9 N C Wd G' → (∀ j, j < d → G' st (2000 + j) = G st (2000 + j)) → G' st (2000 + d) = Wd vq → zp_J p l e R s m args below meth c Q w u [] 13 [(4, 0, ((d + 1 : Nat) : Int)), (5, 0, ((b + 2 : Nat) : Int)), (0, 2, (a : Int)), (1, 2, (xt9 : Int)), (2, 0, (i2 : Int)), (3, 2, (wd9 : Int))] [] u.1 G') → zp_J p l e R s m args below meth c Q w u [] 13 [(4, 0, ((d : Nat) : Int)), (5, 0, ((b : Nat) : Int)), (0, 2, (a : Int)), (1, 2, (xt9 : Int)), (2, 0, (i2 : Int)), (3, 2, (wd9 : Int))] [] u.1 G := by
    clear step_l1
    intro b d vq G hb2 hd hm o1 o2 o3 kk
    have ho1 : G cd (2000 + b) = 2 := (hm.2.2.2.1 b).trans o1
    refine zp_drop (L' := [(4, 0, (d : Int)), (5, 0, (b : Int)), (0, 2, (a : Int)), (1, 2, (xt9 : Int)), (2, 0, (i2 : Int)), (3, 2, (wd9 : Int))]) (by simp <;> omega) ?_
    have hl13 := hm.2.2.1
    refine zp_load (pc := 13) hx hb (zd_X6_value (13, .iload 5, 2, 0, []) (List.mem_of_getElem? (i := 9) rfl)) rfl (j := 1) rfl ?_
    refine zp_if (pc := 15) (tgt := 470) hx hb (zd_X6_value (15, .ifCond .lt 455, 3, 0, []) (List.mem_of_getElem? (i := 10) rfl)) rfl (fun (hc291 : (b : Int) < 0) => ?_) (fun (hc291 : ¬ ((b : Int) < 0)) => ?_)
    · exfalso
      omega
    · refine zp_load (pc := 18) hx hb (zd_X6_value (18, .iload 5, 2, 0, []) (List.mem_of_getElem? (i := 11) rfl)) rfl (j := 1) rfl ?_
      refine zp_const (pc := 20) hx hb (zd_X6_value (20, .iconst 1, 1, 0, []) (List.mem_of_getElem? (i := 12) rfl)) rfl rfl ?_
      refine zp_add (n := ((b : Int) + 1)) (pc := 21) hx hb (zd_X6_value (21, .iadd, 1, 0, []) (List.mem_of_getElem? (i := 13) rfl)) (by omega) (zp_r0 (by omega) (by omega)) ?_
      refine zp_load (pc := 22) hx hb (zd_X6_value (22, .aload_n 1, 1, 0, []) (List.mem_of_getElem? (i := 14) rfl)) rfl (j := 3) rfl ?_
      refine zp_getf (n := (cd : Int)) (pc := 23) hx hb hE hw (zd_X6_value (23, .getfield 86, 3, 0, []) (List.mem_of_getElem? (i := 15) rfl)) (j := 10) rfl rfl rfl qxt hm.2.1 ?_
      refine zp_alenN (N := N) (pc := 26) hx hb hw (zd_X6_value (26, .arraylength, 1, 0, []) (List.mem_of_getElem? (i := 16) rfl)) qcd ⟨_, rfl, by decide, by decide⟩ hm.2.2.1 ?_
      refine zp_icmp (pc := 27) (tgt := 470) hx hb (zd_X6_value (27, .if_icmp .ge 443, 3, 0, []) (List.mem_of_getElem? (i := 17) rfl)) rfl (fun (hc292 : (N : Int) ≤ ((b : Int) + 1)) => ?_) (fun (hc292 : ¬ ((N : Int) ≤ ((b : Int) + 1))) => ?_)
      · exfalso
        omega
      · refine zp_load (pc := 30) hx hb (zd_X6_value (30, .iload 4, 2, 0, []) (List.mem_of_getElem? (i := 18) rfl)) rfl (j := 0) rfl ?_
        refine zp_const (pc := 32) hx hb (zd_X6_value (32, .bipush 64, 2, 0, []) (List.mem_of_getElem? (i := 19) rfl)) rfl rfl ?_
        refine zp_icmp (pc := 34) (tgt := 470) hx hb (zd_X6_value (34, .if_icmp .ge 436, 3, 0, []) (List.mem_of_getElem? (i := 20) rfl)) rfl (fun (hc293 : 64 ≤ (d : Int)) => ?_) (fun (hc293 : ¬ (64 ≤ (d : Int))) => ?_)
        · exfalso
          omega
        · refine zp_load (pc := 37) hx hb (zd_X6_value (37, .aload_n 1, 1, 0, []) (List.mem_of_getElem? (i := 21) rfl)) rfl (j := 3) rfl ?_
          refine zp_getf (n := (cd : Int)) (pc := 38) hx hb hE hw (zd_X6_value (38, .getfield 86, 3, 0, []) (List.mem_of_getElem? (i := 22) rfl)) (j := 10) rfl rfl rfl qxt hm.2.1 ?_
          refine zp_load (pc := 41) hx hb (zd_X6_value (41, .iload 5, 2, 0, []) (List.mem_of_getElem? (i := 23) rfl)) rfl (j := 1) rfl ?_
          refine zp_ialdN (j := b) (v := 2) (N := N) (pc := 43) hx hb hw (zd_X6_value (43, .iaload, 1, 0, []) (List.mem_of_getElem? (i := 24) rfl)) (show zp_ia 1 35 = some (872, 0, 0, (-1000000), 1000000) from rfl) ⟨_, rfl, by decide⟩ hm.2.2.1 qcd (by omega) (by omega) ho1 (fun hk294 => ?_)
          have hk294b := zp_int hk294
          refine zp_store (L' := [(6, 0, 2), (4, 0, (d : Int)), (5, 0, (b : Int)), (0, 2, (a : Int)), (1, 2, (xt9 : Int)), (2, 0, (i2 : Int)), (3, 2, (wd9 : Int))]) (pc := 44) hx hb hnL (zd_X6_value (44, .istore 6, 2, 0, []) (List.mem_of_getElem? (i := 25) rfl)) rfl rfl rfl ?_
          refine zp_load (pc := 46) hx hb (zd_X6_value (46, .aload_n 1, 1, 0, []) (List.mem_of_getElem? (i := 26) rfl)) rfl (j := 4) rfl ?_
          refine zp_getf (n := (cd : Int)) (pc := 47) hx hb hE hw (zd_X6_value (47, .getfield 86, 3, 0, []) (List.mem_of_getElem? (i := 27) rfl)) (j := 10) rfl rfl rfl qxt hm.2.1 ?_
          refine zp_load (pc := 50) hx hb (zd_X6_value (50, .iload 5, 2, 0, []) (List.mem_of_getElem? (i := 28) rfl)) rfl (j := 2) rfl ?_
          refine zp_const (pc := 52) hx hb (zd_X6_value (52, .iconst 1, 1, 0, []) (List.mem_of_getElem? (i := 29) rfl)) rfl rfl ?_
          refine zp_add (n := ((b : Int) + 1)) (pc := 53) hx hb (zd_X6_value (53, .iadd, 1, 0, []) (List.mem_of_getElem? (i := 30) rfl)) (by omega) (zp_r0 (by omega) (by omega)) ?_
          refine zp_ialdN (j := (b + 1)) (v := (vq : Int)) (N := N) (pc := 54) hx hb hw (zd_X6_value (54, .iaload, 1, 0, []) (List.mem_of_getElem? (i := 31) rfl)) (show zp_ia 1 35 = some (872, 0, 0, (-1000000), 1000000) from rfl) ⟨_, rfl, by decide⟩ hm.2.2.1 qcd (by omega) (by omega) ((hm.2.2.2.1 (b + 1)).trans o2) (fun hk295 => ?_)
          have hk295b := zp_int hk295
          refine zp_store (L' := [(7, 0, (vq : Int)), (6, 0, 2), (4, 0, (d : Int)), (5, 0, (b : Int)), (0, 2, (a : Int)), (1, 2, (xt9 : Int)), (2, 0, (i2 : Int)), (3, 2, (wd9 : Int))]) (pc := 55) hx hb hnL (zd_X6_value (55, .istore 7, 2, 0, []) (List.mem_of_getElem? (i := 32) rfl)) rfl rfl rfl ?_
          refine zp_load (pc := 57) hx hb (zd_X6_value (57, .iload 6, 2, 0, []) (List.mem_of_getElem? (i := 33) rfl)) rfl (j := 1) rfl ?_
          refine zp_const (pc := 59) hx hb (zd_X6_value (59, .iconst 1, 1, 0, []) (List.mem_of_getElem? (i := 34) rfl)) rfl rfl ?_
          refine zp_icmp (pc := 60) (tgt := 69) hx hb (zd_X6_value (60, .if_icmp .eq 9, 3, 0, []) (List.mem_of_getElem? (i := 35) rfl)) rfl (fun (hc296 : 2 = 1) => ?_) (fun (hc296 : ¬ (2 = 1)) => ?_)
          · exfalso
            omega
          · refine zp_load (pc := 63) hx hb (zd_X6_value (63, .iload 6, 2, 0, []) (List.mem_of_getElem? (i := 36) rfl)) rfl (j := 1) rfl ?_
            refine zp_const (pc := 65) hx hb (zd_X6_value (65, .iconst 2, 1, 0, []) (List.mem_of_getElem? (i := 37) rfl)) rfl rfl ?_
            refine zp_icmp (pc := 66) (tgt := 123) hx hb (zd_X6_value (66, .if_icmp .ne 57, 3, 0, []) (List.mem_of_getElem? (i := 38) rfl)) rfl (fun (hc297 : ¬ 2 = 2) => ?_) (fun (hc297 : ¬ (¬ 2 = 2)) => ?_)
            · exfalso
              omega
            · refine zp_load (pc := 69) hx hb (zd_X6_value (69, .iload 6, 2, 0, []) (List.mem_of_getElem? (i := 39) rfl)) rfl (j := 1) rfl ?_
              refine zp_const (pc := 71) hx hb (zd_X6_value (71, .iconst 2, 1, 0, []) (List.mem_of_getElem? (i := 40) rfl)) rfl rfl ?_
              refine zp_icmp (pc := 72) (tgt := 91) hx hb (zd_X6_value (72, .if_icmp .ne 19, 3, 0, []) (List.mem_of_getElem? (i := 41) rfl)) rfl (fun (hc298 : ¬ 2 = 2) => ?_) (fun (hc298 : ¬ (¬ 2 = 2)) => ?_)
              · exfalso
                omega
              · refine zp_load (pc := 75) hx hb (zd_X6_value (75, .iload 7, 2, 0, []) (List.mem_of_getElem? (i := 42) rfl)) rfl (j := 0) rfl ?_
                refine zp_if (pc := 77) (tgt := 91) hx hb (zd_X6_value (77, .ifCond .lt 14, 3, 0, []) (List.mem_of_getElem? (i := 43) rfl)) rfl (fun (hc299 : (vq : Int) < 0) => ?_) (fun (hc299 : ¬ ((vq : Int) < 0)) => ?_)
                · exfalso
                  omega
                · refine zp_load (pc := 80) hx hb (zd_X6_value (80, .iload 7, 2, 0, []) (List.mem_of_getElem? (i := 44) rfl)) rfl (j := 0) rfl ?_
                  refine zp_load (pc := 82) hx hb (zd_X6_value (82, .aload_n 3, 1, 0, []) (List.mem_of_getElem? (i := 45) rfl)) rfl (j := 7) rfl ?_
                  refine zu_alen (len := 21) (pc := 83) hx hb hw (zd_X6_value (83, .arraylength, 1, 0, []) (List.mem_of_getElem? (i := 46) rfl)) qwd ⟨_, rfl, by decide, rfl, rfl⟩ (by decide) ?_
                  refine zp_icmp (pc := 84) (tgt := 91) hx hb (zd_X6_value (84, .if_icmp .ge 7, 3, 0, []) (List.mem_of_getElem? (i := 47) rfl)) rfl (fun (hc300 : 21 ≤ (vq : Int)) => ?_) (fun (hc300 : ¬ (21 ≤ (vq : Int))) => ?_)
                  · exfalso
                    omega
                  · refine zp_const (pc := 87) hx hb (zd_X6_value (87, .iconst 1, 1, 0, []) (List.mem_of_getElem? (i := 48) rfl)) rfl rfl ?_
                    refine zp_goto (tgt := 92) (pc := 88) hx hb (zd_X6_value (88, .goto 4, 3, 0, []) (List.mem_of_getElem? (i := 49) rfl)) rfl ?_
                    refine zp_store (L' := [(8, 0, 1), (7, 0, (vq : Int)), (6, 0, 2), (4, 0, (d : Int)), (5, 0, (b : Int)), (0, 2, (a : Int)), (1, 2, (xt9 : Int)), (2, 0, (i2 : Int)), (3, 2, (wd9 : Int))]) (pc := 92) hx hb hnL (zd_X6_value (92, .istore 8, 2, 0, []) (List.mem_of_getElem? (i := 51) rfl)) rfl rfl rfl ?_
                    refine zp_load (pc := 94) hx hb (zd_X6_value (94, .aload_n 0, 1, 0, []) (List.mem_of_getElem? (i := 52) rfl)) rfl (j := 5) rfl ?_
                    refine zp_getf (n := (st : Int)) (pc := 95) hx hb hE hw (zd_X6_value (95, .getfield 15, 3, 0, []) (List.mem_of_getElem? (i := 53) rfl)) (j := 5) rfl rfl rfl hp hm.1 ?_
                    refine zp_load (pc := 98) hx hb (zd_X6_value (98, .iload 4, 2, 0, []) (List.mem_of_getElem? (i := 54) rfl)) rfl (j := 3) rfl ?_
                    refine zp_load (pc := 100) hx hb (zd_X6_value (100, .iload 8, 2, 0, []) (List.mem_of_getElem? (i := 55) rfl)) rfl (j := 0) rfl ?_
                    refine zp_if (pc := 102) (tgt := 113) hx hb (zd_X6_value (102, .ifCond .eq 11, 3, 0, []) (List.mem_of_getElem? (i := 56) rfl)) rfl (fun (hc301 : 1 = 0) => ?_) (fun (hc301 : ¬ (1 = 0)) => ?_)
                    · exfalso
                      omega
                    · refine zp_load (pc := 105) hx hb (zd_X6_value (105, .aload_n 3, 1, 0, []) (List.mem_of_getElem? (i := 57) rfl)) rfl (j := 8) rfl ?_
                      refine zp_load (pc := 106) hx hb (zd_X6_value (106, .iload 7, 2, 0, []) (List.mem_of_getElem? (i := 58) rfl)) rfl (j := 1) rfl ?_
                      refine zp_iald (j := vq) (v := (Wd vq)) (pc := 108) hx hb hw (zd_X6_value (108, .iaload, 1, 0, []) (List.mem_of_getElem? (i := 59) rfl)) (show zp_ia 1 56 = some (21, 0, 0, (-2147483648), 2147483647) from rfl) qwd (by omega) (by omega) (hm.2.2.2.2 vq) (fun hk302 => ?_)
                      have hk302b := zp_int hk302
                      refine zp_i2l (pc := 109) hx hb (zd_X6_value (109, .i2l, 1, 0, []) (List.mem_of_getElem? (i := 60) rfl)) ?_
                      refine zp_goto (tgt := 116) (pc := 110) hx hb (zd_X6_value (110, .goto 6, 3, 0, []) (List.mem_of_getElem? (i := 61) rfl)) rfl ?_
                      refine zp_last (j := d) (pc := 116) hx hb hw heff (zd_X6_value (116, .lastore, 1, 0, []) (List.mem_of_getElem? (i := 64) rfl)) (show zp_ia 2 28 = some (64, 1, 0, (-9223372036854775808), 9223372036854775807) from rfl) qst (by omega) (by omega) rfl ?_
                      refine zp_iinc (L' := [(4, 0, ((d : Int) + 1)), (8, 0, 1), (7, 0, (vq : Int)), (6, 0, 2), (5, 0, (b : Int)), (0, 2, (a : Int)), (1, 2, (xt9 : Int)), (2, 0, (i2 : Int)), (3, 2, (wd9 : Int))]) (n := ((d : Int) + 1)) (pc := 117) hx hb hnL (zd_X6_value (117, .iinc 4 1, 3, 0, []) (List.mem_of_getElem? (i := 65) rfl)) (j := 3) rfl (by omega) (zp_r0 (by omega) (by omega)) rfl rfl ?_
                      refine zp_goto (tgt := 464) (pc := 120) hx hb (zd_X6_value (120, .goto 344, 3, 0, []) (List.mem_of_getElem? (i := 66) rfl)) rfl ?_
                      refine zp_iinc (L' := [(5, 0, ((b : Int) + 2)), (4, 0, ((d : Int) + 1)), (8, 0, 1), (7, 0, (vq : Int)), (6, 0, 2), (0, 2, (a : Int)), (1, 2, (xt9 : Int)), (2, 0, (i2 : Int)), (3, 2, (wd9 : Int))]) (n := ((b : Int) + 2)) (pc := 464) hx hb hnL (zd_X6_value (464, .iinc 5 2, 3, 0, []) (List.mem_of_getElem? (i := 223) rfl)) (j := 4) rfl (by omega) (zp_r0 (by omega) (by omega)) rfl rfl ?_
                      refine zp_goto (tgt := 13) (pc := 467) hx hb (zd_X6_value (467, .goto (-454), 3, 0, []) (List.mem_of_getElem? (i := 224) rfl)) rfl ?_
                      refine zp_drop (L' := [(4, 0, ((d : Int) + 1)), (5, 0, ((b : Int) + 2)), (0, 2, (a : Int)), (1, 2, (xt9 : Int)), (2, 0, (i2 : Int)), (3, 2, (wd9 : Int))]) (by simp) ?_
                      exact kk _ (zgV_s hm n1 n2 n3 n4) (fun j hj => zp_set_ne (Or.inr (by omega))) zp_set_self
  have exitv : ∀ (v1 : Int) (G : Nat → Nat → Int), zgV a xt9 cd st wd9 N C Wd G → G st (2000 + 0) = v1 → -2147483648 ≤ v1 ∧ v1 ≤ 2147483648 → x en = some v1 → zp_J p l e R s m args below meth c Q w u [] 13 [(4, 0, ((1 : Nat) : Int)), (5, 0, ((e9 : Nat) : Int)), (0, 2, (a : Int)), (1, 2, (xt9 : Int)), (2, 0, (i2 : Int)), (3, 2, (wd9 : Int))] [] u.1 G := by
    clear step_l1 step_l2
    intro v1 G hm e1 bd1 hxv
    have ho1 : G cd (2000 + e9) = 0 := (hm.2.2.2.1 e9).trans hC9
    refine zp_drop (L' := [(4, 0, 1), (5, 0, (e9 : Int)), (0, 2, (a : Int)), (1, 2, (xt9 : Int)), (2, 0, (i2 : Int)), (3, 2, (wd9 : Int))]) (by simp <;> omega) ?_
    have hl13 := hm.2.2.1
    refine zp_load (pc := 13) hx hb (zd_X6_value (13, .iload 5, 2, 0, []) (List.mem_of_getElem? (i := 9) rfl)) rfl (j := 1) rfl ?_
    refine zp_if (pc := 15) (tgt := 470) hx hb (zd_X6_value (15, .ifCond .lt 455, 3, 0, []) (List.mem_of_getElem? (i := 10) rfl)) rfl (fun (hc303 : (e9 : Int) < 0) => ?_) (fun (hc303 : ¬ ((e9 : Int) < 0)) => ?_)
    · exfalso
      omega
    · refine zp_load (pc := 18) hx hb (zd_X6_value (18, .iload 5, 2, 0, []) (List.mem_of_getElem? (i := 11) rfl)) rfl (j := 1) rfl ?_
      refine zp_const (pc := 20) hx hb (zd_X6_value (20, .iconst 1, 1, 0, []) (List.mem_of_getElem? (i := 12) rfl)) rfl rfl ?_
      refine zp_add (n := ((e9 : Int) + 1)) (pc := 21) hx hb (zd_X6_value (21, .iadd, 1, 0, []) (List.mem_of_getElem? (i := 13) rfl)) (by omega) (zp_r0 (by omega) (by omega)) ?_
      refine zp_load (pc := 22) hx hb (zd_X6_value (22, .aload_n 1, 1, 0, []) (List.mem_of_getElem? (i := 14) rfl)) rfl (j := 3) rfl ?_
      refine zp_getf (n := (cd : Int)) (pc := 23) hx hb hE hw (zd_X6_value (23, .getfield 86, 3, 0, []) (List.mem_of_getElem? (i := 15) rfl)) (j := 10) rfl rfl rfl qxt hm.2.1 ?_
      refine zp_alenN (N := N) (pc := 26) hx hb hw (zd_X6_value (26, .arraylength, 1, 0, []) (List.mem_of_getElem? (i := 16) rfl)) qcd ⟨_, rfl, by decide, by decide⟩ hm.2.2.1 ?_
      refine zp_icmp (pc := 27) (tgt := 470) hx hb (zd_X6_value (27, .if_icmp .ge 443, 3, 0, []) (List.mem_of_getElem? (i := 17) rfl)) rfl (fun (hc304 : (N : Int) ≤ ((e9 : Int) + 1)) => ?_) (fun (hc304 : ¬ ((N : Int) ≤ ((e9 : Int) + 1))) => ?_)
      · exfalso
        omega
      · refine zp_load (pc := 30) hx hb (zd_X6_value (30, .iload 4, 2, 0, []) (List.mem_of_getElem? (i := 18) rfl)) rfl (j := 0) rfl ?_
        refine zp_const (pc := 32) hx hb (zd_X6_value (32, .bipush 64, 2, 0, []) (List.mem_of_getElem? (i := 19) rfl)) rfl rfl ?_
        refine zp_icmp (pc := 34) (tgt := 470) hx hb (zd_X6_value (34, .if_icmp .ge 436, 3, 0, []) (List.mem_of_getElem? (i := 20) rfl)) rfl (fun (hc305 : 64 ≤ 1) => ?_) (fun (hc305 : ¬ (64 ≤ 1)) => ?_)
        · exfalso
          omega
        · refine zp_load (pc := 37) hx hb (zd_X6_value (37, .aload_n 1, 1, 0, []) (List.mem_of_getElem? (i := 21) rfl)) rfl (j := 3) rfl ?_
          refine zp_getf (n := (cd : Int)) (pc := 38) hx hb hE hw (zd_X6_value (38, .getfield 86, 3, 0, []) (List.mem_of_getElem? (i := 22) rfl)) (j := 10) rfl rfl rfl qxt hm.2.1 ?_
          refine zp_load (pc := 41) hx hb (zd_X6_value (41, .iload 5, 2, 0, []) (List.mem_of_getElem? (i := 23) rfl)) rfl (j := 1) rfl ?_
          refine zp_ialdN (j := e9) (v := 0) (N := N) (pc := 43) hx hb hw (zd_X6_value (43, .iaload, 1, 0, []) (List.mem_of_getElem? (i := 24) rfl)) (show zp_ia 1 35 = some (872, 0, 0, (-1000000), 1000000) from rfl) ⟨_, rfl, by decide⟩ hm.2.2.1 qcd (by omega) (by omega) ho1 (fun hk306 => ?_)
          have hk306b := zp_int hk306
          refine zp_store (L' := [(6, 0, 0), (4, 0, 1), (5, 0, (e9 : Int)), (0, 2, (a : Int)), (1, 2, (xt9 : Int)), (2, 0, (i2 : Int)), (3, 2, (wd9 : Int))]) (pc := 44) hx hb hnL (zd_X6_value (44, .istore 6, 2, 0, []) (List.mem_of_getElem? (i := 25) rfl)) rfl rfl rfl ?_
          refine zp_load (pc := 46) hx hb (zd_X6_value (46, .aload_n 1, 1, 0, []) (List.mem_of_getElem? (i := 26) rfl)) rfl (j := 4) rfl ?_
          refine zp_getf (n := (cd : Int)) (pc := 47) hx hb hE hw (zd_X6_value (47, .getfield 86, 3, 0, []) (List.mem_of_getElem? (i := 27) rfl)) (j := 10) rfl rfl rfl qxt hm.2.1 ?_
          refine zp_load (pc := 50) hx hb (zd_X6_value (50, .iload 5, 2, 0, []) (List.mem_of_getElem? (i := 28) rfl)) rfl (j := 2) rfl ?_
          refine zp_const (pc := 52) hx hb (zd_X6_value (52, .iconst 1, 1, 0, []) (List.mem_of_getElem? (i := 29) rfl)) rfl rfl ?_
          refine zp_add (n := ((e9 : Int) + 1)) (pc := 53) hx hb (zd_X6_value (53, .iadd, 1, 0, []) (List.mem_of_getElem? (i := 30) rfl)) (by omega) (zp_r0 (by omega) (by omega)) ?_
          refine zp_ialdN (j := (e9 + 1)) (v := (C (e9 + 1))) (N := N) (pc := 54) hx hb hw (zd_X6_value (54, .iaload, 1, 0, []) (List.mem_of_getElem? (i := 31) rfl)) (show zp_ia 1 35 = some (872, 0, 0, (-1000000), 1000000) from rfl) ⟨_, rfl, by decide⟩ hm.2.2.1 qcd (by omega) (by omega) (hm.2.2.2.1 (e9 + 1)) (fun hk307 => ?_)
          have hk307b := zp_int hk307
          refine zp_store (L' := [(7, 0, (C (e9 + 1))), (6, 0, 0), (4, 0, 1), (5, 0, (e9 : Int)), (0, 2, (a : Int)), (1, 2, (xt9 : Int)), (2, 0, (i2 : Int)), (3, 2, (wd9 : Int))]) (pc := 55) hx hb hnL (zd_X6_value (55, .istore 7, 2, 0, []) (List.mem_of_getElem? (i := 32) rfl)) rfl rfl rfl ?_
          refine zp_load (pc := 57) hx hb (zd_X6_value (57, .iload 6, 2, 0, []) (List.mem_of_getElem? (i := 33) rfl)) rfl (j := 1) rfl ?_
          refine zp_const (pc := 59) hx hb (zd_X6_value (59, .iconst 1, 1, 0, []) (List.mem_of_getElem? (i := 34) rfl)) rfl rfl ?_
          refine zp_icmp (pc := 60) (tgt := 69) hx hb (zd_X6_value (60, .if_icmp .eq 9, 3, 0, []) (List.mem_of_getElem? (i := 35) rfl)) rfl (fun (hc308 : 0 = 1) => ?_) (fun (hc308 : ¬ (0 = 1)) => ?_)
          · exfalso
            omega
          · refine zp_load (pc := 63) hx hb (zd_X6_value (63, .iload 6, 2, 0, []) (List.mem_of_getElem? (i := 36) rfl)) rfl (j := 1) rfl ?_
            refine zp_const (pc := 65) hx hb (zd_X6_value (65, .iconst 2, 1, 0, []) (List.mem_of_getElem? (i := 37) rfl)) rfl rfl ?_
            refine zp_icmp (pc := 66) (tgt := 123) hx hb (zd_X6_value (66, .if_icmp .ne 57, 3, 0, []) (List.mem_of_getElem? (i := 38) rfl)) rfl (fun (hc309 : ¬ 0 = 2) => ?_) (fun (hc309 : ¬ (¬ 0 = 2)) => ?_)
            · refine zp_load (pc := 123) hx hb (zd_X6_value (123, .iload 4, 2, 0, []) (List.mem_of_getElem? (i := 67) rfl)) rfl (j := 2) rfl ?_
              refine zp_const (pc := 125) hx hb (zd_X6_value (125, .iconst 1, 1, 0, []) (List.mem_of_getElem? (i := 68) rfl)) rfl rfl ?_
              refine zp_icmp (pc := 126) (tgt := 133) hx hb (zd_X6_value (126, .if_icmp .ge 7, 3, 0, []) (List.mem_of_getElem? (i := 69) rfl)) rfl (fun (hc310 : 1 ≤ 1) => ?_) (fun (hc310 : ¬ (1 ≤ 1)) => ?_)
              · refine zp_load (pc := 133) hx hb (zd_X6_value (133, .aload_n 0, 1, 0, []) (List.mem_of_getElem? (i := 72) rfl)) rfl (j := 4) rfl ?_
                refine zp_getf (n := (st : Int)) (pc := 134) hx hb hE hw (zd_X6_value (134, .getfield 15, 3, 0, []) (List.mem_of_getElem? (i := 73) rfl)) (j := 5) rfl rfl rfl hp hm.1 ?_
                refine zp_load (pc := 137) hx hb (zd_X6_value (137, .iload 4, 2, 0, []) (List.mem_of_getElem? (i := 74) rfl)) rfl (j := 2) rfl ?_
                refine zp_const (pc := 139) hx hb (zd_X6_value (139, .iconst 1, 1, 0, []) (List.mem_of_getElem? (i := 75) rfl)) rfl rfl ?_
                refine zp_sub (n := 0) (pc := 140) hx hb (zd_X6_value (140, .isub, 1, 0, []) (List.mem_of_getElem? (i := 76) rfl)) (by omega) (zp_r0 (by omega) (by omega)) ?_
                refine zp_lald (j := 0) (v := v1) (pc := 141) hx hb hw (zd_X6_value (141, .laload, 1, 0, []) (List.mem_of_getElem? (i := 77) rfl)) (show zp_ia 2 28 = some (64, 1, 0, (-9223372036854775808), 9223372036854775807) from rfl) qst (by omega) (by omega) e1 ?_
                refine zp_store (L' := [(8, 1, v1), (7, 0, (C (e9 + 1))), (6, 0, 0), (4, 0, 1), (5, 0, (e9 : Int)), (0, 2, (a : Int)), (1, 2, (xt9 : Int)), (2, 0, (i2 : Int)), (3, 2, (wd9 : Int))]) (pc := 142) hx hb hnL (zd_X6_value (142, .lstore 8, 2, 0, []) (List.mem_of_getElem? (i := 78) rfl)) rfl rfl rfl ?_
                refine zp_load (pc := 144) hx hb (zd_X6_value (144, .iload 6, 2, 0, []) (List.mem_of_getElem? (i := 79) rfl)) rfl (j := 2) rfl ?_
                refine zp_if (pc := 146) (tgt := 152) hx hb (zd_X6_value (146, .ifCond .ne 6, 3, 0, []) (List.mem_of_getElem? (i := 80) rfl)) rfl (fun (hc312 : ¬ 0 = 0) => ?_) (fun (hc312 : ¬ (¬ 0 = 0)) => ?_)
                · exfalso
                  omega
                · refine zp_load (pc := 149) hx hb (zd_X6_value (149, .lload 8, 2, 0, []) (List.mem_of_getElem? (i := 81) rfl)) rfl (j := 0) rfl ?_
                  refine zp_lret (pc := 151) (n := v1) hx hb hE hQ hU5 rfl (by decide) (zd_X6_value (151, .lreturn, 1, 0, []) (List.mem_of_getElem? (i := 82) rfl)) (j := 0) rfl (zp_o1 (by first | assumption | exact zp_r1 (by omega) (by omega))) ?_
                  rw [hps]
                  exact ⟨rfl, fun v hv => by
                    rw [hxv] at hv
                    obtain rfl := Option.some.inj hv
                    exact ⟨bd1, rfl⟩, fun hv => by
                    rw [hxv] at hv
                    cases hv⟩
              · exfalso
                omega
            · exfalso
              omega
  have step_nt : ∀ (b d : Nat) (v1 : Int) (G : Nat → Nat → Int), b < e9 → d < 63 → zgV a xt9 cd st wd9 N C Wd G → C b = 3 → G st (2000 + d) = v1 → -2147483648 ≤ v1 ∧ v1 ≤ 2147483648 → (∀ G' : Nat → Nat → Int, zgV a xt9 cd st wd9 N C Wd G' → (∀ j, j < d → G' st (2000 + j) = G st (2000 + j)) → G' st (2000 + d) = 1 - v1 → zp_J p l e R s m args below meth c Q w u [] 13 [(4, 0, ((d + 1 : Nat) : Int)), (5, 0, ((b + 2 : Nat) : Int)), (0, 2, (a : Int)), (1, 2, (xt9 : Int)), (2, 0, (i2 : Int)), (3, 2, (wd9 : Int))] [] u.1 G') → zp_J p l e R s m args below meth c Q w u [] 13 [(4, 0, ((d + 1 : Nat) : Int)), (5, 0, ((b : Nat) : Int)), (0, 2, (a : Int)), (1, 2, (xt9 : Int)), (2, 0, (i2 : Int)), (3, 2, (wd9 : Int))] [] u.1 G := by
    clear step_l1 step_l2 exitv
    intro b d v1 G hb2 hd hm o1 e1 bd1 kk
    have ho1 : G cd (2000 + b) = 3 := (hm.2.2.2.1 b).trans o1
    refine zp_drop (L' := [(4, 0, ((d : Int) + 1)), (5, 0, (b : Int)), (0, 2, (a : Int)), (1, 2, (xt9 : Int)), (2, 0, (i2 : Int)), (3, 2, (wd9 : Int))]) (by simp <;> omega) ?_
    have hl13 := hm.2.2.1
    refine zp_load (pc := 13) hx hb (zd_X6_value (13, .iload 5, 2, 0, []) (List.mem_of_getElem? (i := 9) rfl)) rfl (j := 1) rfl ?_
    refine zp_if (pc := 15) (tgt := 470) hx hb (zd_X6_value (15, .ifCond .lt 455, 3, 0, []) (List.mem_of_getElem? (i := 10) rfl)) rfl (fun (hc313 : (b : Int) < 0) => ?_) (fun (hc313 : ¬ ((b : Int) < 0)) => ?_)
    · exfalso
      omega
    · refine zp_load (pc := 18) hx hb (zd_X6_value (18, .iload 5, 2, 0, []) (List.mem_of_getElem? (i := 11) rfl)) rfl (j := 1) rfl ?_
      refine zp_const (pc := 20) hx hb (zd_X6_value (20, .iconst 1, 1, 0, []) (List.mem_of_getElem? (i := 12) rfl)) rfl rfl ?_
      refine zp_add (n := ((b : Int) + 1)) (pc := 21) hx hb (zd_X6_value (21, .iadd, 1, 0, []) (List.mem_of_getElem? (i := 13) rfl)) (by omega) (zp_r0 (by omega) (by omega)) ?_
      refine zp_load (pc := 22) hx hb (zd_X6_value (22, .aload_n 1, 1, 0, []) (List.mem_of_getElem? (i := 14) rfl)) rfl (j := 3) rfl ?_
      refine zp_getf (n := (cd : Int)) (pc := 23) hx hb hE hw (zd_X6_value (23, .getfield 86, 3, 0, []) (List.mem_of_getElem? (i := 15) rfl)) (j := 10) rfl rfl rfl qxt hm.2.1 ?_
      refine zp_alenN (N := N) (pc := 26) hx hb hw (zd_X6_value (26, .arraylength, 1, 0, []) (List.mem_of_getElem? (i := 16) rfl)) qcd ⟨_, rfl, by decide, by decide⟩ hm.2.2.1 ?_
      refine zp_icmp (pc := 27) (tgt := 470) hx hb (zd_X6_value (27, .if_icmp .ge 443, 3, 0, []) (List.mem_of_getElem? (i := 17) rfl)) rfl (fun (hc314 : (N : Int) ≤ ((b : Int) + 1)) => ?_) (fun (hc314 : ¬ ((N : Int) ≤ ((b : Int) + 1))) => ?_)
      · exfalso
        omega
      · refine zp_load (pc := 30) hx hb (zd_X6_value (30, .iload 4, 2, 0, []) (List.mem_of_getElem? (i := 18) rfl)) rfl (j := 0) rfl ?_
        refine zp_const (pc := 32) hx hb (zd_X6_value (32, .bipush 64, 2, 0, []) (List.mem_of_getElem? (i := 19) rfl)) rfl rfl ?_
        refine zp_icmp (pc := 34) (tgt := 470) hx hb (zd_X6_value (34, .if_icmp .ge 436, 3, 0, []) (List.mem_of_getElem? (i := 20) rfl)) rfl (fun (hc315 : 64 ≤ ((d : Int) + 1)) => ?_) (fun (hc315 : ¬ (64 ≤ ((d : Int) + 1))) => ?_)
        · exfalso
          omega
        · refine zp_load (pc := 37) hx hb (zd_X6_value (37, .aload_n 1, 1, 0, []) (List.mem_of_getElem? (i := 21) rfl)) rfl (j := 3) rfl ?_
          refine zp_getf (n := (cd : Int)) (pc := 38) hx hb hE hw (zd_X6_value (38, .getfield 86, 3, 0, []) (List.mem_of_getElem? (i := 22) rfl)) (j := 10) rfl rfl rfl qxt hm.2.1 ?_
          refine zp_load (pc := 41) hx hb (zd_X6_value (41, .iload 5, 2, 0, []) (List.mem_of_getElem? (i := 23) rfl)) rfl (j := 1) rfl ?_
          refine zp_ialdN (j := b) (v := 3) (N := N) (pc := 43) hx hb hw (zd_X6_value (43, .iaload, 1, 0, []) (List.mem_of_getElem? (i := 24) rfl)) (show zp_ia 1 35 = some (872, 0, 0, (-1000000), 1000000) from rfl) ⟨_, rfl, by decide⟩ hm.2.2.1 qcd (by omega) (by omega) ho1 (fun hk316 => ?_)
          have hk316b := zp_int hk316
          refine zp_store (L' := [(6, 0, 3), (4, 0, ((d : Int) + 1)), (5, 0, (b : Int)), (0, 2, (a : Int)), (1, 2, (xt9 : Int)), (2, 0, (i2 : Int)), (3, 2, (wd9 : Int))]) (pc := 44) hx hb hnL (zd_X6_value (44, .istore 6, 2, 0, []) (List.mem_of_getElem? (i := 25) rfl)) rfl rfl rfl ?_
          refine zp_load (pc := 46) hx hb (zd_X6_value (46, .aload_n 1, 1, 0, []) (List.mem_of_getElem? (i := 26) rfl)) rfl (j := 4) rfl ?_
          refine zp_getf (n := (cd : Int)) (pc := 47) hx hb hE hw (zd_X6_value (47, .getfield 86, 3, 0, []) (List.mem_of_getElem? (i := 27) rfl)) (j := 10) rfl rfl rfl qxt hm.2.1 ?_
          refine zp_load (pc := 50) hx hb (zd_X6_value (50, .iload 5, 2, 0, []) (List.mem_of_getElem? (i := 28) rfl)) rfl (j := 2) rfl ?_
          refine zp_const (pc := 52) hx hb (zd_X6_value (52, .iconst 1, 1, 0, []) (List.mem_of_getElem? (i := 29) rfl)) rfl rfl ?_
          refine zp_add (n := ((b : Int) + 1)) (pc := 53) hx hb (zd_X6_value (53, .iadd, 1, 0, []) (List.mem_of_getElem? (i := 30) rfl)) (by omega) (zp_r0 (by omega) (by omega)) ?_
          refine zp_ialdN (j := (b + 1)) (v := (C (b + 1))) (N := N) (pc := 54) hx hb hw (zd_X6_value (54, .iaload, 1, 0, []) (List.mem_of_getElem? (i := 31) rfl)) (show zp_ia 1 35 = some (872, 0, 0, (-1000000), 1000000) from rfl) ⟨_, rfl, by decide⟩ hm.2.2.1 qcd (by omega) (by omega) (hm.2.2.2.1 (b + 1)) (fun hk317 => ?_)
          have hk317b := zp_int hk317
          refine zp_store (L' := [(7, 0, (C (b + 1))), (6, 0, 3), (4, 0, ((d : Int) + 1)), (5, 0, (b : Int)), (0, 2, (a : Int)), (1, 2, (xt9 : Int)), (2, 0, (i2 : Int)), (3, 2, (wd9 : Int))]) (pc := 55) hx hb hnL (zd_X6_value (55, .istore 7, 2, 0, []) (List.mem_of_getElem? (i := 32) rfl)) rfl rfl rfl ?_
          refine zp_load (pc := 57) hx hb (zd_X6_value (57, .iload 6, 2, 0, []) (List.mem_of_getElem? (i := 33) rfl)) rfl (j := 1) rfl ?_
          refine zp_const (pc := 59) hx hb (zd_X6_value (59, .iconst 1, 1, 0, []) (List.mem_of_getElem? (i := 34) rfl)) rfl rfl ?_
          refine zp_icmp (pc := 60) (tgt := 69) hx hb (zd_X6_value (60, .if_icmp .eq 9, 3, 0, []) (List.mem_of_getElem? (i := 35) rfl)) rfl (fun (hc318 : 3 = 1) => ?_) (fun (hc318 : ¬ (3 = 1)) => ?_)
          · exfalso
            omega
          · refine zp_load (pc := 63) hx hb (zd_X6_value (63, .iload 6, 2, 0, []) (List.mem_of_getElem? (i := 36) rfl)) rfl (j := 1) rfl ?_
            refine zp_const (pc := 65) hx hb (zd_X6_value (65, .iconst 2, 1, 0, []) (List.mem_of_getElem? (i := 37) rfl)) rfl rfl ?_
            refine zp_icmp (pc := 66) (tgt := 123) hx hb (zd_X6_value (66, .if_icmp .ne 57, 3, 0, []) (List.mem_of_getElem? (i := 38) rfl)) rfl (fun (hc319 : ¬ 3 = 2) => ?_) (fun (hc319 : ¬ (¬ 3 = 2)) => ?_)
            · refine zp_load (pc := 123) hx hb (zd_X6_value (123, .iload 4, 2, 0, []) (List.mem_of_getElem? (i := 67) rfl)) rfl (j := 2) rfl ?_
              refine zp_const (pc := 125) hx hb (zd_X6_value (125, .iconst 1, 1, 0, []) (List.mem_of_getElem? (i := 68) rfl)) rfl rfl ?_
              refine zp_icmp (pc := 126) (tgt := 133) hx hb (zd_X6_value (126, .if_icmp .ge 7, 3, 0, []) (List.mem_of_getElem? (i := 69) rfl)) rfl (fun (hc320 : 1 ≤ ((d : Int) + 1)) => ?_) (fun (hc320 : ¬ (1 ≤ ((d : Int) + 1))) => ?_)
              · refine zp_load (pc := 133) hx hb (zd_X6_value (133, .aload_n 0, 1, 0, []) (List.mem_of_getElem? (i := 72) rfl)) rfl (j := 4) rfl ?_
                refine zp_getf (n := (st : Int)) (pc := 134) hx hb hE hw (zd_X6_value (134, .getfield 15, 3, 0, []) (List.mem_of_getElem? (i := 73) rfl)) (j := 5) rfl rfl rfl hp hm.1 ?_
                refine zp_load (pc := 137) hx hb (zd_X6_value (137, .iload 4, 2, 0, []) (List.mem_of_getElem? (i := 74) rfl)) rfl (j := 2) rfl ?_
                refine zp_const (pc := 139) hx hb (zd_X6_value (139, .iconst 1, 1, 0, []) (List.mem_of_getElem? (i := 75) rfl)) rfl rfl ?_
                refine zp_sub (n := (d : Int)) (pc := 140) hx hb (zd_X6_value (140, .isub, 1, 0, []) (List.mem_of_getElem? (i := 76) rfl)) (by omega) (zp_r0 (by omega) (by omega)) ?_
                refine zp_lald (j := d) (v := v1) (pc := 141) hx hb hw (zd_X6_value (141, .laload, 1, 0, []) (List.mem_of_getElem? (i := 77) rfl)) (show zp_ia 2 28 = some (64, 1, 0, (-9223372036854775808), 9223372036854775807) from rfl) qst (by omega) (by omega) e1 ?_
                refine zp_store (L' := [(8, 1, v1), (7, 0, (C (b + 1))), (6, 0, 3), (4, 0, ((d : Int) + 1)), (5, 0, (b : Int)), (0, 2, (a : Int)), (1, 2, (xt9 : Int)), (2, 0, (i2 : Int)), (3, 2, (wd9 : Int))]) (pc := 142) hx hb hnL (zd_X6_value (142, .lstore 8, 2, 0, []) (List.mem_of_getElem? (i := 78) rfl)) rfl rfl rfl ?_
                refine zp_load (pc := 144) hx hb (zd_X6_value (144, .iload 6, 2, 0, []) (List.mem_of_getElem? (i := 79) rfl)) rfl (j := 2) rfl ?_
                refine zp_if (pc := 146) (tgt := 152) hx hb (zd_X6_value (146, .ifCond .ne 6, 3, 0, []) (List.mem_of_getElem? (i := 80) rfl)) rfl (fun (hc322 : ¬ 3 = 0) => ?_) (fun (hc322 : ¬ (¬ 3 = 0)) => ?_)
                · refine zp_load (pc := 152) hx hb (zd_X6_value (152, .iload 6, 2, 0, []) (List.mem_of_getElem? (i := 83) rfl)) rfl (j := 2) rfl ?_
                  refine zp_const (pc := 154) hx hb (zd_X6_value (154, .iconst 3, 1, 0, []) (List.mem_of_getElem? (i := 84) rfl)) rfl rfl ?_
                  refine zp_icmp (pc := 155) (tgt := 174) hx hb (zd_X6_value (155, .if_icmp .ne 19, 3, 0, []) (List.mem_of_getElem? (i := 85) rfl)) rfl (fun (hc323 : ¬ 3 = 3) => ?_) (fun (hc323 : ¬ (¬ 3 = 3)) => ?_)
                  · exfalso
                    omega
                  · refine zp_load (pc := 158) hx hb (zd_X6_value (158, .aload_n 0, 1, 0, []) (List.mem_of_getElem? (i := 86) rfl)) rfl (j := 5) rfl ?_
                    refine zp_getf (n := (st : Int)) (pc := 159) hx hb hE hw (zd_X6_value (159, .getfield 15, 3, 0, []) (List.mem_of_getElem? (i := 87) rfl)) (j := 5) rfl rfl rfl hp hm.1 ?_
                    refine zp_load (pc := 162) hx hb (zd_X6_value (162, .iload 4, 2, 0, []) (List.mem_of_getElem? (i := 88) rfl)) rfl (j := 3) rfl ?_
                    refine zp_const (pc := 164) hx hb (zd_X6_value (164, .iconst 1, 1, 0, []) (List.mem_of_getElem? (i := 89) rfl)) rfl rfl ?_
                    refine zp_sub (n := (d : Int)) (pc := 165) hx hb (zd_X6_value (165, .isub, 1, 0, []) (List.mem_of_getElem? (i := 90) rfl)) (by omega) (zp_r0 (by omega) (by omega)) ?_
                    refine zp_const (pc := 166) hx hb (zd_X6_value (166, .lconst 1, 1, 0, []) (List.mem_of_getElem? (i := 91) rfl)) rfl rfl ?_
                    refine zp_load (pc := 167) hx hb (zd_X6_value (167, .lload 8, 2, 0, []) (List.mem_of_getElem? (i := 92) rfl)) rfl (j := 0) rfl ?_
                    refine zp_lsubx (n := (1 - v1)) (pc := 169) hx hb (zd_X6_value (169, .lsub, 1, 0, []) (List.mem_of_getElem? (i := 93) rfl)) rfl (zp_r1 (by omega) (by omega)) ?_
                    refine zp_last (j := d) (pc := 170) hx hb hw heff (zd_X6_value (170, .lastore, 1, 0, []) (List.mem_of_getElem? (i := 94) rfl)) (show zp_ia 2 28 = some (64, 1, 0, (-9223372036854775808), 9223372036854775807) from rfl) qst (by omega) (by omega) rfl ?_
                    refine zp_goto (tgt := 464) (pc := 171) hx hb (zd_X6_value (171, .goto 293, 3, 0, []) (List.mem_of_getElem? (i := 95) rfl)) rfl ?_
                    refine zp_iinc (L' := [(5, 0, ((b : Int) + 2)), (8, 1, v1), (7, 0, (C (b + 1))), (6, 0, 3), (4, 0, ((d : Int) + 1)), (0, 2, (a : Int)), (1, 2, (xt9 : Int)), (2, 0, (i2 : Int)), (3, 2, (wd9 : Int))]) (n := ((b : Int) + 2)) (pc := 464) hx hb hnL (zd_X6_value (464, .iinc 5 2, 3, 0, []) (List.mem_of_getElem? (i := 223) rfl)) (j := 4) rfl (by omega) (zp_r0 (by omega) (by omega)) rfl rfl ?_
                    refine zp_goto (tgt := 13) (pc := 467) hx hb (zd_X6_value (467, .goto (-454), 3, 0, []) (List.mem_of_getElem? (i := 224) rfl)) rfl ?_
                    refine zp_drop (L' := [(4, 0, ((d : Int) + 1)), (5, 0, ((b : Int) + 2)), (0, 2, (a : Int)), (1, 2, (xt9 : Int)), (2, 0, (i2 : Int)), (3, 2, (wd9 : Int))]) (by simp) ?_
                    exact kk _ (zgV_s hm n1 n2 n3 n4) (fun j hj => zp_set_ne (Or.inr (by omega))) zp_set_self
                · exfalso
                  omega
              · exfalso
                omega
            · exfalso
              omega
  have step_b4 : ∀ (b d j9 : Nat) (v1 : Int) (G : Nat → Nat → Int), b < e9 → d < 63 → b + 2 ≤ j9 → j9 ≤ e9 → zgV a xt9 cd st wd9 N C Wd G → C b = 4 → C (b + 1) = (j9 : Int) → G st (2000 + d) = v1 → (v1 = 0 ∨ v1 = 1) → (v1 = 0 → zp_J p l e R s m args below meth c Q w u [] 13 [(4, 0, ((d + 1 : Nat) : Int)), (5, 0, ((j9 : Nat) : Int)), (0, 2, (a : Int)), (1, 2, (xt9 : Int)), (2, 0, (i2 : Int)), (3, 2, (wd9 : Int))] [] u.1 G) → (¬ v1 = 0 → zp_J p l e R s m args below meth c Q w u [] 13 [(4, 0, ((d : Nat) : Int)), (5, 0, ((b + 2 : Nat) : Int)), (0, 2, (a : Int)), (1, 2, (xt9 : Int)), (2, 0, (i2 : Int)), (3, 2, (wd9 : Int))] [] u.1 G) → zp_J p l e R s m args below meth c Q w u [] 13 [(4, 0, ((d + 1 : Nat) : Int)), (5, 0, ((b : Nat) : Int)), (0, 2, (a : Int)), (1, 2, (xt9 : Int)), (2, 0, (i2 : Int)), (3, 2, (wd9 : Int))] [] u.1 G := by
    clear step_l1 step_l2 exitv step_nt
    intro b d j9 v1 G hb2 hd hj1 hj2 hm o1 o2 e1 ht kj kn
    have ho1 : G cd (2000 + b) = 4 := (hm.2.2.2.1 b).trans o1
    refine zp_drop (L' := [(4, 0, ((d : Int) + 1)), (5, 0, (b : Int)), (0, 2, (a : Int)), (1, 2, (xt9 : Int)), (2, 0, (i2 : Int)), (3, 2, (wd9 : Int))]) (by simp <;> omega) ?_
    have hl13 := hm.2.2.1
    refine zp_load (pc := 13) hx hb (zd_X6_value (13, .iload 5, 2, 0, []) (List.mem_of_getElem? (i := 9) rfl)) rfl (j := 1) rfl ?_
    refine zp_if (pc := 15) (tgt := 470) hx hb (zd_X6_value (15, .ifCond .lt 455, 3, 0, []) (List.mem_of_getElem? (i := 10) rfl)) rfl (fun (hc324 : (b : Int) < 0) => ?_) (fun (hc324 : ¬ ((b : Int) < 0)) => ?_)
    · exfalso
      omega
    · refine zp_load (pc := 18) hx hb (zd_X6_value (18, .iload 5, 2, 0, []) (List.mem_of_getElem? (i := 11) rfl)) rfl (j := 1) rfl ?_
      refine zp_const (pc := 20) hx hb (zd_X6_value (20, .iconst 1, 1, 0, []) (List.mem_of_getElem? (i := 12) rfl)) rfl rfl ?_
      refine zp_add (n := ((b : Int) + 1)) (pc := 21) hx hb (zd_X6_value (21, .iadd, 1, 0, []) (List.mem_of_getElem? (i := 13) rfl)) (by omega) (zp_r0 (by omega) (by omega)) ?_
      refine zp_load (pc := 22) hx hb (zd_X6_value (22, .aload_n 1, 1, 0, []) (List.mem_of_getElem? (i := 14) rfl)) rfl (j := 3) rfl ?_
      refine zp_getf (n := (cd : Int)) (pc := 23) hx hb hE hw (zd_X6_value (23, .getfield 86, 3, 0, []) (List.mem_of_getElem? (i := 15) rfl)) (j := 10) rfl rfl rfl qxt hm.2.1 ?_
      refine zp_alenN (N := N) (pc := 26) hx hb hw (zd_X6_value (26, .arraylength, 1, 0, []) (List.mem_of_getElem? (i := 16) rfl)) qcd ⟨_, rfl, by decide, by decide⟩ hm.2.2.1 ?_
      refine zp_icmp (pc := 27) (tgt := 470) hx hb (zd_X6_value (27, .if_icmp .ge 443, 3, 0, []) (List.mem_of_getElem? (i := 17) rfl)) rfl (fun (hc325 : (N : Int) ≤ ((b : Int) + 1)) => ?_) (fun (hc325 : ¬ ((N : Int) ≤ ((b : Int) + 1))) => ?_)
      · exfalso
        omega
      · refine zp_load (pc := 30) hx hb (zd_X6_value (30, .iload 4, 2, 0, []) (List.mem_of_getElem? (i := 18) rfl)) rfl (j := 0) rfl ?_
        refine zp_const (pc := 32) hx hb (zd_X6_value (32, .bipush 64, 2, 0, []) (List.mem_of_getElem? (i := 19) rfl)) rfl rfl ?_
        refine zp_icmp (pc := 34) (tgt := 470) hx hb (zd_X6_value (34, .if_icmp .ge 436, 3, 0, []) (List.mem_of_getElem? (i := 20) rfl)) rfl (fun (hc326 : 64 ≤ ((d : Int) + 1)) => ?_) (fun (hc326 : ¬ (64 ≤ ((d : Int) + 1))) => ?_)
        · exfalso
          omega
        · refine zp_load (pc := 37) hx hb (zd_X6_value (37, .aload_n 1, 1, 0, []) (List.mem_of_getElem? (i := 21) rfl)) rfl (j := 3) rfl ?_
          refine zp_getf (n := (cd : Int)) (pc := 38) hx hb hE hw (zd_X6_value (38, .getfield 86, 3, 0, []) (List.mem_of_getElem? (i := 22) rfl)) (j := 10) rfl rfl rfl qxt hm.2.1 ?_
          refine zp_load (pc := 41) hx hb (zd_X6_value (41, .iload 5, 2, 0, []) (List.mem_of_getElem? (i := 23) rfl)) rfl (j := 1) rfl ?_
          refine zp_ialdN (j := b) (v := 4) (N := N) (pc := 43) hx hb hw (zd_X6_value (43, .iaload, 1, 0, []) (List.mem_of_getElem? (i := 24) rfl)) (show zp_ia 1 35 = some (872, 0, 0, (-1000000), 1000000) from rfl) ⟨_, rfl, by decide⟩ hm.2.2.1 qcd (by omega) (by omega) ho1 (fun hk327 => ?_)
          have hk327b := zp_int hk327
          refine zp_store (L' := [(6, 0, 4), (4, 0, ((d : Int) + 1)), (5, 0, (b : Int)), (0, 2, (a : Int)), (1, 2, (xt9 : Int)), (2, 0, (i2 : Int)), (3, 2, (wd9 : Int))]) (pc := 44) hx hb hnL (zd_X6_value (44, .istore 6, 2, 0, []) (List.mem_of_getElem? (i := 25) rfl)) rfl rfl rfl ?_
          refine zp_load (pc := 46) hx hb (zd_X6_value (46, .aload_n 1, 1, 0, []) (List.mem_of_getElem? (i := 26) rfl)) rfl (j := 4) rfl ?_
          refine zp_getf (n := (cd : Int)) (pc := 47) hx hb hE hw (zd_X6_value (47, .getfield 86, 3, 0, []) (List.mem_of_getElem? (i := 27) rfl)) (j := 10) rfl rfl rfl qxt hm.2.1 ?_
          refine zp_load (pc := 50) hx hb (zd_X6_value (50, .iload 5, 2, 0, []) (List.mem_of_getElem? (i := 28) rfl)) rfl (j := 2) rfl ?_
          refine zp_const (pc := 52) hx hb (zd_X6_value (52, .iconst 1, 1, 0, []) (List.mem_of_getElem? (i := 29) rfl)) rfl rfl ?_
          refine zp_add (n := ((b : Int) + 1)) (pc := 53) hx hb (zd_X6_value (53, .iadd, 1, 0, []) (List.mem_of_getElem? (i := 30) rfl)) (by omega) (zp_r0 (by omega) (by omega)) ?_
          refine zp_ialdN (j := (b + 1)) (v := (j9 : Int)) (N := N) (pc := 54) hx hb hw (zd_X6_value (54, .iaload, 1, 0, []) (List.mem_of_getElem? (i := 31) rfl)) (show zp_ia 1 35 = some (872, 0, 0, (-1000000), 1000000) from rfl) ⟨_, rfl, by decide⟩ hm.2.2.1 qcd (by omega) (by omega) ((hm.2.2.2.1 (b + 1)).trans o2) (fun hk328 => ?_)
          have hk328b := zp_int hk328
          refine zp_store (L' := [(7, 0, (j9 : Int)), (6, 0, 4), (4, 0, ((d : Int) + 1)), (5, 0, (b : Int)), (0, 2, (a : Int)), (1, 2, (xt9 : Int)), (2, 0, (i2 : Int)), (3, 2, (wd9 : Int))]) (pc := 55) hx hb hnL (zd_X6_value (55, .istore 7, 2, 0, []) (List.mem_of_getElem? (i := 32) rfl)) rfl rfl rfl ?_
          refine zp_load (pc := 57) hx hb (zd_X6_value (57, .iload 6, 2, 0, []) (List.mem_of_getElem? (i := 33) rfl)) rfl (j := 1) rfl ?_
          refine zp_const (pc := 59) hx hb (zd_X6_value (59, .iconst 1, 1, 0, []) (List.mem_of_getElem? (i := 34) rfl)) rfl rfl ?_
          refine zp_icmp (pc := 60) (tgt := 69) hx hb (zd_X6_value (60, .if_icmp .eq 9, 3, 0, []) (List.mem_of_getElem? (i := 35) rfl)) rfl (fun (hc329 : 4 = 1) => ?_) (fun (hc329 : ¬ (4 = 1)) => ?_)
          · exfalso
            omega
          · refine zp_load (pc := 63) hx hb (zd_X6_value (63, .iload 6, 2, 0, []) (List.mem_of_getElem? (i := 36) rfl)) rfl (j := 1) rfl ?_
            refine zp_const (pc := 65) hx hb (zd_X6_value (65, .iconst 2, 1, 0, []) (List.mem_of_getElem? (i := 37) rfl)) rfl rfl ?_
            refine zp_icmp (pc := 66) (tgt := 123) hx hb (zd_X6_value (66, .if_icmp .ne 57, 3, 0, []) (List.mem_of_getElem? (i := 38) rfl)) rfl (fun (hc330 : ¬ 4 = 2) => ?_) (fun (hc330 : ¬ (¬ 4 = 2)) => ?_)
            · refine zp_load (pc := 123) hx hb (zd_X6_value (123, .iload 4, 2, 0, []) (List.mem_of_getElem? (i := 67) rfl)) rfl (j := 2) rfl ?_
              refine zp_const (pc := 125) hx hb (zd_X6_value (125, .iconst 1, 1, 0, []) (List.mem_of_getElem? (i := 68) rfl)) rfl rfl ?_
              refine zp_icmp (pc := 126) (tgt := 133) hx hb (zd_X6_value (126, .if_icmp .ge 7, 3, 0, []) (List.mem_of_getElem? (i := 69) rfl)) rfl (fun (hc331 : 1 ≤ ((d : Int) + 1)) => ?_) (fun (hc331 : ¬ (1 ≤ ((d : Int) + 1))) => ?_)
              · refine zp_load (pc := 133) hx hb (zd_X6_value (133, .aload_n 0, 1, 0, []) (List.mem_of_getElem? (i := 72) rfl)) rfl (j := 4) rfl ?_
                refine zp_getf (n := (st : Int)) (pc := 134) hx hb hE hw (zd_X6_value (134, .getfield 15, 3, 0, []) (List.mem_of_getElem? (i := 73) rfl)) (j := 5) rfl rfl rfl hp hm.1 ?_
                refine zp_load (pc := 137) hx hb (zd_X6_value (137, .iload 4, 2, 0, []) (List.mem_of_getElem? (i := 74) rfl)) rfl (j := 2) rfl ?_
                refine zp_const (pc := 139) hx hb (zd_X6_value (139, .iconst 1, 1, 0, []) (List.mem_of_getElem? (i := 75) rfl)) rfl rfl ?_
                refine zp_sub (n := (d : Int)) (pc := 140) hx hb (zd_X6_value (140, .isub, 1, 0, []) (List.mem_of_getElem? (i := 76) rfl)) (by omega) (zp_r0 (by omega) (by omega)) ?_
                refine zp_lald (j := d) (v := v1) (pc := 141) hx hb hw (zd_X6_value (141, .laload, 1, 0, []) (List.mem_of_getElem? (i := 77) rfl)) (show zp_ia 2 28 = some (64, 1, 0, (-9223372036854775808), 9223372036854775807) from rfl) qst (by omega) (by omega) e1 ?_
                refine zp_store (L' := [(8, 1, v1), (7, 0, (j9 : Int)), (6, 0, 4), (4, 0, ((d : Int) + 1)), (5, 0, (b : Int)), (0, 2, (a : Int)), (1, 2, (xt9 : Int)), (2, 0, (i2 : Int)), (3, 2, (wd9 : Int))]) (pc := 142) hx hb hnL (zd_X6_value (142, .lstore 8, 2, 0, []) (List.mem_of_getElem? (i := 78) rfl)) rfl rfl rfl ?_
                refine zp_load (pc := 144) hx hb (zd_X6_value (144, .iload 6, 2, 0, []) (List.mem_of_getElem? (i := 79) rfl)) rfl (j := 2) rfl ?_
                refine zp_if (pc := 146) (tgt := 152) hx hb (zd_X6_value (146, .ifCond .ne 6, 3, 0, []) (List.mem_of_getElem? (i := 80) rfl)) rfl (fun (hc333 : ¬ 4 = 0) => ?_) (fun (hc333 : ¬ (¬ 4 = 0)) => ?_)
                · refine zp_load (pc := 152) hx hb (zd_X6_value (152, .iload 6, 2, 0, []) (List.mem_of_getElem? (i := 83) rfl)) rfl (j := 2) rfl ?_
                  refine zp_const (pc := 154) hx hb (zd_X6_value (154, .iconst 3, 1, 0, []) (List.mem_of_getElem? (i := 84) rfl)) rfl rfl ?_
                  refine zp_icmp (pc := 155) (tgt := 174) hx hb (zd_X6_value (155, .if_icmp .ne 19, 3, 0, []) (List.mem_of_getElem? (i := 85) rfl)) rfl (fun (hc334 : ¬ 4 = 3) => ?_) (fun (hc334 : ¬ (¬ 4 = 3)) => ?_)
                  · refine zp_load (pc := 174) hx hb (zd_X6_value (174, .iload 6, 2, 0, []) (List.mem_of_getElem? (i := 96) rfl)) rfl (j := 2) rfl ?_
                    refine zp_const (pc := 176) hx hb (zd_X6_value (176, .iconst 4, 1, 0, []) (List.mem_of_getElem? (i := 97) rfl)) rfl rfl ?_
                    refine zp_icmp (pc := 177) (tgt := 186) hx hb (zd_X6_value (177, .if_icmp .eq 9, 3, 0, []) (List.mem_of_getElem? (i := 98) rfl)) rfl (fun (hc335 : 4 = 4) => ?_) (fun (hc335 : ¬ (4 = 4)) => ?_)
                    · refine zp_load (pc := 186) hx hb (zd_X6_value (186, .lload 8, 2, 0, []) (List.mem_of_getElem? (i := 102) rfl)) rfl (j := 0) rfl ?_
                      refine zp_const (pc := 188) hx hb (zd_X6_value (188, .lconst 1, 1, 0, []) (List.mem_of_getElem? (i := 103) rfl)) rfl rfl ?_
                      refine zp_lcmp (pc := 189) (tgt := 197) hx hb (zd_X6_value (189, .lcmp, 1, 0, []) (List.mem_of_getElem? (i := 104) rfl)) (zd_X6_value (190, .ifCond .ne 7, 3, 0, []) (List.mem_of_getElem? (i := 105) rfl)) rfl (fun (hc336 : ¬ v1 = 1) => ?_) (fun (hc336 : ¬ (¬ v1 = 1)) => ?_)
                      · refine zp_const (pc := 197) hx hb (zd_X6_value (197, .iconst 0, 1, 0, []) (List.mem_of_getElem? (i := 108) rfl)) rfl rfl ?_
                        refine zp_load (pc := 198) hx hb (zd_X6_value (198, .iload 6, 2, 0, []) (List.mem_of_getElem? (i := 109) rfl)) rfl (j := 2) rfl ?_
                        refine zp_const (pc := 200) hx hb (zd_X6_value (200, .iconst 5, 1, 0, []) (List.mem_of_getElem? (i := 110) rfl)) rfl rfl ?_
                        refine zp_icmp (pc := 201) (tgt := 208) hx hb (zd_X6_value (201, .if_icmp .ne 7, 3, 0, []) (List.mem_of_getElem? (i := 111) rfl)) rfl (fun (hc337 : ¬ 4 = 5) => ?_) (fun (hc337 : ¬ (¬ 4 = 5)) => ?_)
                        · refine zp_const (pc := 208) hx hb (zd_X6_value (208, .iconst 0, 1, 0, []) (List.mem_of_getElem? (i := 114) rfl)) rfl rfl ?_
                          refine zp_icmp (pc := 209) (tgt := 218) hx hb (zd_X6_value (209, .if_icmp .eq 9, 3, 0, []) (List.mem_of_getElem? (i := 115) rfl)) rfl (fun (hc338 : 0 = 0) => ?_) (fun (hc338 : ¬ (0 = 0)) => ?_)
                          · refine zp_load (pc := 218) hx hb (zd_X6_value (218, .iload 7, 2, 0, []) (List.mem_of_getElem? (i := 118) rfl)) rfl (j := 1) rfl ?_
                            refine zp_const (pc := 220) hx hb (zd_X6_value (220, .iconst 2, 1, 0, []) (List.mem_of_getElem? (i := 119) rfl)) rfl rfl ?_
                            refine zp_sub (n := ((j9 : Int) - 2)) (pc := 221) hx hb (zd_X6_value (221, .isub, 1, 0, []) (List.mem_of_getElem? (i := 120) rfl)) (by omega) (zp_r0 (by omega) (by omega)) ?_
                            refine zp_load (pc := 222) hx hb (zd_X6_value (222, .iload 5, 2, 0, []) (List.mem_of_getElem? (i := 121) rfl)) rfl (j := 4) rfl ?_
                            refine zp_icmp (pc := 224) (tgt := 464) hx hb (zd_X6_value (224, .if_icmp .le 240, 3, 0, []) (List.mem_of_getElem? (i := 122) rfl)) rfl (fun (hc339 : ((j9 : Int) - 2) ≤ (b : Int)) => ?_) (fun (hc339 : ¬ (((j9 : Int) - 2) ≤ (b : Int))) => ?_)
                            · refine zp_iinc (L' := [(5, 0, ((b : Int) + 2)), (8, 1, v1), (7, 0, (j9 : Int)), (6, 0, 4), (4, 0, ((d : Int) + 1)), (0, 2, (a : Int)), (1, 2, (xt9 : Int)), (2, 0, (i2 : Int)), (3, 2, (wd9 : Int))]) (n := ((b : Int) + 2)) (pc := 464) hx hb hnL (zd_X6_value (464, .iinc 5 2, 3, 0, []) (List.mem_of_getElem? (i := 223) rfl)) (j := 4) rfl (by omega) (zp_r0 (by omega) (by omega)) rfl rfl ?_
                              refine zp_goto (tgt := 13) (pc := 467) hx hb (zd_X6_value (467, .goto (-454), 3, 0, []) (List.mem_of_getElem? (i := 224) rfl)) rfl ?_
                              refine zp_drop (L' := [(4, 0, ((d : Int) + 1)), (5, 0, (j9 : Int)), (0, 2, (a : Int)), (1, 2, (xt9 : Int)), (2, 0, (i2 : Int)), (3, 2, (wd9 : Int))]) (by simp <;> omega) ?_
                              exact kj (by omega)
                            · refine zp_load (pc := 227) hx hb (zd_X6_value (227, .iload 7, 2, 0, []) (List.mem_of_getElem? (i := 123) rfl)) rfl (j := 1) rfl ?_
                              refine zp_const (pc := 229) hx hb (zd_X6_value (229, .iconst 2, 1, 0, []) (List.mem_of_getElem? (i := 124) rfl)) rfl rfl ?_
                              refine zp_sub (n := ((j9 : Int) - 2)) (pc := 230) hx hb (zd_X6_value (230, .isub, 1, 0, []) (List.mem_of_getElem? (i := 125) rfl)) (by omega) (zp_r0 (by omega) (by omega)) ?_
                              refine zp_store (L' := [(5, 0, ((j9 : Int) - 2)), (8, 1, v1), (7, 0, (j9 : Int)), (6, 0, 4), (4, 0, ((d : Int) + 1)), (0, 2, (a : Int)), (1, 2, (xt9 : Int)), (2, 0, (i2 : Int)), (3, 2, (wd9 : Int))]) (pc := 231) hx hb hnL (zd_X6_value (231, .istore 5, 2, 0, []) (List.mem_of_getElem? (i := 126) rfl)) rfl rfl rfl ?_
                              refine zp_goto (tgt := 464) (pc := 233) hx hb (zd_X6_value (233, .goto 231, 3, 0, []) (List.mem_of_getElem? (i := 127) rfl)) rfl ?_
                              refine zp_iinc (L' := [(5, 0, (j9 : Int)), (8, 1, v1), (7, 0, (j9 : Int)), (6, 0, 4), (4, 0, ((d : Int) + 1)), (0, 2, (a : Int)), (1, 2, (xt9 : Int)), (2, 0, (i2 : Int)), (3, 2, (wd9 : Int))]) (n := (j9 : Int)) (pc := 464) hx hb hnL (zd_X6_value (464, .iinc 5 2, 3, 0, []) (List.mem_of_getElem? (i := 223) rfl)) (j := 0) rfl (by omega) (zp_r0 (by omega) (by omega)) rfl rfl ?_
                              refine zp_goto (tgt := 13) (pc := 467) hx hb (zd_X6_value (467, .goto (-454), 3, 0, []) (List.mem_of_getElem? (i := 224) rfl)) rfl ?_
                              refine zp_drop (L' := [(4, 0, ((d : Int) + 1)), (5, 0, (j9 : Int)), (0, 2, (a : Int)), (1, 2, (xt9 : Int)), (2, 0, (i2 : Int)), (3, 2, (wd9 : Int))]) (by simp <;> omega) ?_
                              exact kj (by omega)
                          · exfalso
                            omega
                        · exfalso
                          omega
                      · refine zp_const (pc := 193) hx hb (zd_X6_value (193, .iconst 1, 1, 0, []) (List.mem_of_getElem? (i := 106) rfl)) rfl rfl ?_
                        refine zp_goto (tgt := 198) (pc := 194) hx hb (zd_X6_value (194, .goto 4, 3, 0, []) (List.mem_of_getElem? (i := 107) rfl)) rfl ?_
                        refine zp_load (pc := 198) hx hb (zd_X6_value (198, .iload 6, 2, 0, []) (List.mem_of_getElem? (i := 109) rfl)) rfl (j := 2) rfl ?_
                        refine zp_const (pc := 200) hx hb (zd_X6_value (200, .iconst 5, 1, 0, []) (List.mem_of_getElem? (i := 110) rfl)) rfl rfl ?_
                        refine zp_icmp (pc := 201) (tgt := 208) hx hb (zd_X6_value (201, .if_icmp .ne 7, 3, 0, []) (List.mem_of_getElem? (i := 111) rfl)) rfl (fun (hc340 : ¬ 4 = 5) => ?_) (fun (hc340 : ¬ (¬ 4 = 5)) => ?_)
                        · refine zp_const (pc := 208) hx hb (zd_X6_value (208, .iconst 0, 1, 0, []) (List.mem_of_getElem? (i := 114) rfl)) rfl rfl ?_
                          refine zp_icmp (pc := 209) (tgt := 218) hx hb (zd_X6_value (209, .if_icmp .eq 9, 3, 0, []) (List.mem_of_getElem? (i := 115) rfl)) rfl (fun (hc341 : 1 = 0) => ?_) (fun (hc341 : ¬ (1 = 0)) => ?_)
                          · exfalso
                            omega
                          · refine zp_iinc (L' := [(4, 0, (d : Int)), (8, 1, v1), (7, 0, (j9 : Int)), (6, 0, 4), (5, 0, (b : Int)), (0, 2, (a : Int)), (1, 2, (xt9 : Int)), (2, 0, (i2 : Int)), (3, 2, (wd9 : Int))]) (n := (d : Int)) (pc := 212) hx hb hnL (zd_X6_value (212, .iinc 4 (-1), 3, 0, []) (List.mem_of_getElem? (i := 116) rfl)) (j := 3) rfl (by omega) (zp_r0 (by omega) (by omega)) rfl rfl ?_
                            refine zp_goto (tgt := 464) (pc := 215) hx hb (zd_X6_value (215, .goto 249, 3, 0, []) (List.mem_of_getElem? (i := 117) rfl)) rfl ?_
                            refine zp_iinc (L' := [(5, 0, ((b : Int) + 2)), (4, 0, (d : Int)), (8, 1, v1), (7, 0, (j9 : Int)), (6, 0, 4), (0, 2, (a : Int)), (1, 2, (xt9 : Int)), (2, 0, (i2 : Int)), (3, 2, (wd9 : Int))]) (n := ((b : Int) + 2)) (pc := 464) hx hb hnL (zd_X6_value (464, .iinc 5 2, 3, 0, []) (List.mem_of_getElem? (i := 223) rfl)) (j := 4) rfl (by omega) (zp_r0 (by omega) (by omega)) rfl rfl ?_
                            refine zp_goto (tgt := 13) (pc := 467) hx hb (zd_X6_value (467, .goto (-454), 3, 0, []) (List.mem_of_getElem? (i := 224) rfl)) rfl ?_
                            refine zp_drop (L' := [(4, 0, (d : Int)), (5, 0, ((b : Int) + 2)), (0, 2, (a : Int)), (1, 2, (xt9 : Int)), (2, 0, (i2 : Int)), (3, 2, (wd9 : Int))]) (by simp) ?_
                            exact kn (by omega)
                        · exfalso
                          omega
                    · exfalso
                      omega
                  · exfalso
                    omega
                · exfalso
                  omega
              · exfalso
                omega
            · exfalso
              omega
  have step_b5 : ∀ (b d j9 : Nat) (v1 : Int) (G : Nat → Nat → Int), b < e9 → d < 63 → b + 2 ≤ j9 → j9 ≤ e9 → zgV a xt9 cd st wd9 N C Wd G → C b = 5 → C (b + 1) = (j9 : Int) → G st (2000 + d) = v1 → (v1 = 0 ∨ v1 = 1) → (v1 = 1 → zp_J p l e R s m args below meth c Q w u [] 13 [(4, 0, ((d + 1 : Nat) : Int)), (5, 0, ((j9 : Nat) : Int)), (0, 2, (a : Int)), (1, 2, (xt9 : Int)), (2, 0, (i2 : Int)), (3, 2, (wd9 : Int))] [] u.1 G) → (¬ v1 = 1 → zp_J p l e R s m args below meth c Q w u [] 13 [(4, 0, ((d : Nat) : Int)), (5, 0, ((b + 2 : Nat) : Int)), (0, 2, (a : Int)), (1, 2, (xt9 : Int)), (2, 0, (i2 : Int)), (3, 2, (wd9 : Int))] [] u.1 G) → zp_J p l e R s m args below meth c Q w u [] 13 [(4, 0, ((d + 1 : Nat) : Int)), (5, 0, ((b : Nat) : Int)), (0, 2, (a : Int)), (1, 2, (xt9 : Int)), (2, 0, (i2 : Int)), (3, 2, (wd9 : Int))] [] u.1 G := by
    clear step_l1 step_l2 exitv step_nt step_b4
    intro b d j9 v1 G hb2 hd hj1 hj2 hm o1 o2 e1 ht kj kn
    have ho1 : G cd (2000 + b) = 5 := (hm.2.2.2.1 b).trans o1
    refine zp_drop (L' := [(4, 0, ((d : Int) + 1)), (5, 0, (b : Int)), (0, 2, (a : Int)), (1, 2, (xt9 : Int)), (2, 0, (i2 : Int)), (3, 2, (wd9 : Int))]) (by simp <;> omega) ?_
    have hl13 := hm.2.2.1
    refine zp_load (pc := 13) hx hb (zd_X6_value (13, .iload 5, 2, 0, []) (List.mem_of_getElem? (i := 9) rfl)) rfl (j := 1) rfl ?_
    refine zp_if (pc := 15) (tgt := 470) hx hb (zd_X6_value (15, .ifCond .lt 455, 3, 0, []) (List.mem_of_getElem? (i := 10) rfl)) rfl (fun (hc342 : (b : Int) < 0) => ?_) (fun (hc342 : ¬ ((b : Int) < 0)) => ?_)
    · exfalso
      omega
    · refine zp_load (pc := 18) hx hb (zd_X6_value (18, .iload 5, 2, 0, []) (List.mem_of_getElem? (i := 11) rfl)) rfl (j := 1) rfl ?_
      refine zp_const (pc := 20) hx hb (zd_X6_value (20, .iconst 1, 1, 0, []) (List.mem_of_getElem? (i := 12) rfl)) rfl rfl ?_
      refine zp_add (n := ((b : Int) + 1)) (pc := 21) hx hb (zd_X6_value (21, .iadd, 1, 0, []) (List.mem_of_getElem? (i := 13) rfl)) (by omega) (zp_r0 (by omega) (by omega)) ?_
      refine zp_load (pc := 22) hx hb (zd_X6_value (22, .aload_n 1, 1, 0, []) (List.mem_of_getElem? (i := 14) rfl)) rfl (j := 3) rfl ?_
      refine zp_getf (n := (cd : Int)) (pc := 23) hx hb hE hw (zd_X6_value (23, .getfield 86, 3, 0, []) (List.mem_of_getElem? (i := 15) rfl)) (j := 10) rfl rfl rfl qxt hm.2.1 ?_
      refine zp_alenN (N := N) (pc := 26) hx hb hw (zd_X6_value (26, .arraylength, 1, 0, []) (List.mem_of_getElem? (i := 16) rfl)) qcd ⟨_, rfl, by decide, by decide⟩ hm.2.2.1 ?_
      refine zp_icmp (pc := 27) (tgt := 470) hx hb (zd_X6_value (27, .if_icmp .ge 443, 3, 0, []) (List.mem_of_getElem? (i := 17) rfl)) rfl (fun (hc343 : (N : Int) ≤ ((b : Int) + 1)) => ?_) (fun (hc343 : ¬ ((N : Int) ≤ ((b : Int) + 1))) => ?_)
      · exfalso
        omega
      · refine zp_load (pc := 30) hx hb (zd_X6_value (30, .iload 4, 2, 0, []) (List.mem_of_getElem? (i := 18) rfl)) rfl (j := 0) rfl ?_
        refine zp_const (pc := 32) hx hb (zd_X6_value (32, .bipush 64, 2, 0, []) (List.mem_of_getElem? (i := 19) rfl)) rfl rfl ?_
        refine zp_icmp (pc := 34) (tgt := 470) hx hb (zd_X6_value (34, .if_icmp .ge 436, 3, 0, []) (List.mem_of_getElem? (i := 20) rfl)) rfl (fun (hc344 : 64 ≤ ((d : Int) + 1)) => ?_) (fun (hc344 : ¬ (64 ≤ ((d : Int) + 1))) => ?_)
        · exfalso
          omega
        · refine zp_load (pc := 37) hx hb (zd_X6_value (37, .aload_n 1, 1, 0, []) (List.mem_of_getElem? (i := 21) rfl)) rfl (j := 3) rfl ?_
          refine zp_getf (n := (cd : Int)) (pc := 38) hx hb hE hw (zd_X6_value (38, .getfield 86, 3, 0, []) (List.mem_of_getElem? (i := 22) rfl)) (j := 10) rfl rfl rfl qxt hm.2.1 ?_
          refine zp_load (pc := 41) hx hb (zd_X6_value (41, .iload 5, 2, 0, []) (List.mem_of_getElem? (i := 23) rfl)) rfl (j := 1) rfl ?_
          refine zp_ialdN (j := b) (v := 5) (N := N) (pc := 43) hx hb hw (zd_X6_value (43, .iaload, 1, 0, []) (List.mem_of_getElem? (i := 24) rfl)) (show zp_ia 1 35 = some (872, 0, 0, (-1000000), 1000000) from rfl) ⟨_, rfl, by decide⟩ hm.2.2.1 qcd (by omega) (by omega) ho1 (fun hk345 => ?_)
          have hk345b := zp_int hk345
          refine zp_store (L' := [(6, 0, 5), (4, 0, ((d : Int) + 1)), (5, 0, (b : Int)), (0, 2, (a : Int)), (1, 2, (xt9 : Int)), (2, 0, (i2 : Int)), (3, 2, (wd9 : Int))]) (pc := 44) hx hb hnL (zd_X6_value (44, .istore 6, 2, 0, []) (List.mem_of_getElem? (i := 25) rfl)) rfl rfl rfl ?_
          refine zp_load (pc := 46) hx hb (zd_X6_value (46, .aload_n 1, 1, 0, []) (List.mem_of_getElem? (i := 26) rfl)) rfl (j := 4) rfl ?_
          refine zp_getf (n := (cd : Int)) (pc := 47) hx hb hE hw (zd_X6_value (47, .getfield 86, 3, 0, []) (List.mem_of_getElem? (i := 27) rfl)) (j := 10) rfl rfl rfl qxt hm.2.1 ?_
          refine zp_load (pc := 50) hx hb (zd_X6_value (50, .iload 5, 2, 0, []) (List.mem_of_getElem? (i := 28) rfl)) rfl (j := 2) rfl ?_
          refine zp_const (pc := 52) hx hb (zd_X6_value (52, .iconst 1, 1, 0, []) (List.mem_of_getElem? (i := 29) rfl)) rfl rfl ?_
          refine zp_add (n := ((b : Int) + 1)) (pc := 53) hx hb (zd_X6_value (53, .iadd, 1, 0, []) (List.mem_of_getElem? (i := 30) rfl)) (by omega) (zp_r0 (by omega) (by omega)) ?_
          refine zp_ialdN (j := (b + 1)) (v := (j9 : Int)) (N := N) (pc := 54) hx hb hw (zd_X6_value (54, .iaload, 1, 0, []) (List.mem_of_getElem? (i := 31) rfl)) (show zp_ia 1 35 = some (872, 0, 0, (-1000000), 1000000) from rfl) ⟨_, rfl, by decide⟩ hm.2.2.1 qcd (by omega) (by omega) ((hm.2.2.2.1 (b + 1)).trans o2) (fun hk346 => ?_)
          have hk346b := zp_int hk346
          refine zp_store (L' := [(7, 0, (j9 : Int)), (6, 0, 5), (4, 0, ((d : Int) + 1)), (5, 0, (b : Int)), (0, 2, (a : Int)), (1, 2, (xt9 : Int)), (2, 0, (i2 : Int)), (3, 2, (wd9 : Int))]) (pc := 55) hx hb hnL (zd_X6_value (55, .istore 7, 2, 0, []) (List.mem_of_getElem? (i := 32) rfl)) rfl rfl rfl ?_
          refine zp_load (pc := 57) hx hb (zd_X6_value (57, .iload 6, 2, 0, []) (List.mem_of_getElem? (i := 33) rfl)) rfl (j := 1) rfl ?_
          refine zp_const (pc := 59) hx hb (zd_X6_value (59, .iconst 1, 1, 0, []) (List.mem_of_getElem? (i := 34) rfl)) rfl rfl ?_
          refine zp_icmp (pc := 60) (tgt := 69) hx hb (zd_X6_value (60, .if_icmp .eq 9, 3, 0, []) (List.mem_of_getElem? (i := 35) rfl)) rfl (fun (hc347 : 5 = 1) => ?_) (fun (hc347 : ¬ (5 = 1)) => ?_)
          · exfalso
            omega
          · refine zp_load (pc := 63) hx hb (zd_X6_value (63, .iload 6, 2, 0, []) (List.mem_of_getElem? (i := 36) rfl)) rfl (j := 1) rfl ?_
            refine zp_const (pc := 65) hx hb (zd_X6_value (65, .iconst 2, 1, 0, []) (List.mem_of_getElem? (i := 37) rfl)) rfl rfl ?_
            refine zp_icmp (pc := 66) (tgt := 123) hx hb (zd_X6_value (66, .if_icmp .ne 57, 3, 0, []) (List.mem_of_getElem? (i := 38) rfl)) rfl (fun (hc348 : ¬ 5 = 2) => ?_) (fun (hc348 : ¬ (¬ 5 = 2)) => ?_)
            · refine zp_load (pc := 123) hx hb (zd_X6_value (123, .iload 4, 2, 0, []) (List.mem_of_getElem? (i := 67) rfl)) rfl (j := 2) rfl ?_
              refine zp_const (pc := 125) hx hb (zd_X6_value (125, .iconst 1, 1, 0, []) (List.mem_of_getElem? (i := 68) rfl)) rfl rfl ?_
              refine zp_icmp (pc := 126) (tgt := 133) hx hb (zd_X6_value (126, .if_icmp .ge 7, 3, 0, []) (List.mem_of_getElem? (i := 69) rfl)) rfl (fun (hc349 : 1 ≤ ((d : Int) + 1)) => ?_) (fun (hc349 : ¬ (1 ≤ ((d : Int) + 1))) => ?_)
              · refine zp_load (pc := 133) hx hb (zd_X6_value (133, .aload_n 0, 1, 0, []) (List.mem_of_getElem? (i := 72) rfl)) rfl (j := 4) rfl ?_
                refine zp_getf (n := (st : Int)) (pc := 134) hx hb hE hw (zd_X6_value (134, .getfield 15, 3, 0, []) (List.mem_of_getElem? (i := 73) rfl)) (j := 5) rfl rfl rfl hp hm.1 ?_
                refine zp_load (pc := 137) hx hb (zd_X6_value (137, .iload 4, 2, 0, []) (List.mem_of_getElem? (i := 74) rfl)) rfl (j := 2) rfl ?_
                refine zp_const (pc := 139) hx hb (zd_X6_value (139, .iconst 1, 1, 0, []) (List.mem_of_getElem? (i := 75) rfl)) rfl rfl ?_
                refine zp_sub (n := (d : Int)) (pc := 140) hx hb (zd_X6_value (140, .isub, 1, 0, []) (List.mem_of_getElem? (i := 76) rfl)) (by omega) (zp_r0 (by omega) (by omega)) ?_
                refine zp_lald (j := d) (v := v1) (pc := 141) hx hb hw (zd_X6_value (141, .laload, 1, 0, []) (List.mem_of_getElem? (i := 77) rfl)) (show zp_ia 2 28 = some (64, 1, 0, (-9223372036854775808), 9223372036854775807) from rfl) qst (by omega) (by omega) e1 ?_
                refine zp_store (L' := [(8, 1, v1), (7, 0, (j9 : Int)), (6, 0, 5), (4, 0, ((d : Int) + 1)), (5, 0, (b : Int)), (0, 2, (a : Int)), (1, 2, (xt9 : Int)), (2, 0, (i2 : Int)), (3, 2, (wd9 : Int))]) (pc := 142) hx hb hnL (zd_X6_value (142, .lstore 8, 2, 0, []) (List.mem_of_getElem? (i := 78) rfl)) rfl rfl rfl ?_
                refine zp_load (pc := 144) hx hb (zd_X6_value (144, .iload 6, 2, 0, []) (List.mem_of_getElem? (i := 79) rfl)) rfl (j := 2) rfl ?_
                refine zp_if (pc := 146) (tgt := 152) hx hb (zd_X6_value (146, .ifCond .ne 6, 3, 0, []) (List.mem_of_getElem? (i := 80) rfl)) rfl (fun (hc351 : ¬ 5 = 0) => ?_) (fun (hc351 : ¬ (¬ 5 = 0)) => ?_)
                · refine zp_load (pc := 152) hx hb (zd_X6_value (152, .iload 6, 2, 0, []) (List.mem_of_getElem? (i := 83) rfl)) rfl (j := 2) rfl ?_
                  refine zp_const (pc := 154) hx hb (zd_X6_value (154, .iconst 3, 1, 0, []) (List.mem_of_getElem? (i := 84) rfl)) rfl rfl ?_
                  refine zp_icmp (pc := 155) (tgt := 174) hx hb (zd_X6_value (155, .if_icmp .ne 19, 3, 0, []) (List.mem_of_getElem? (i := 85) rfl)) rfl (fun (hc352 : ¬ 5 = 3) => ?_) (fun (hc352 : ¬ (¬ 5 = 3)) => ?_)
                  · refine zp_load (pc := 174) hx hb (zd_X6_value (174, .iload 6, 2, 0, []) (List.mem_of_getElem? (i := 96) rfl)) rfl (j := 2) rfl ?_
                    refine zp_const (pc := 176) hx hb (zd_X6_value (176, .iconst 4, 1, 0, []) (List.mem_of_getElem? (i := 97) rfl)) rfl rfl ?_
                    refine zp_icmp (pc := 177) (tgt := 186) hx hb (zd_X6_value (177, .if_icmp .eq 9, 3, 0, []) (List.mem_of_getElem? (i := 98) rfl)) rfl (fun (hc353 : 5 = 4) => ?_) (fun (hc353 : ¬ (5 = 4)) => ?_)
                    · exfalso
                      omega
                    · refine zp_load (pc := 180) hx hb (zd_X6_value (180, .iload 6, 2, 0, []) (List.mem_of_getElem? (i := 99) rfl)) rfl (j := 2) rfl ?_
                      refine zp_const (pc := 182) hx hb (zd_X6_value (182, .iconst 5, 1, 0, []) (List.mem_of_getElem? (i := 100) rfl)) rfl rfl ?_
                      refine zp_icmp (pc := 183) (tgt := 236) hx hb (zd_X6_value (183, .if_icmp .ne 53, 3, 0, []) (List.mem_of_getElem? (i := 101) rfl)) rfl (fun (hc354 : ¬ 5 = 5) => ?_) (fun (hc354 : ¬ (¬ 5 = 5)) => ?_)
                      · exfalso
                        omega
                      · refine zp_load (pc := 186) hx hb (zd_X6_value (186, .lload 8, 2, 0, []) (List.mem_of_getElem? (i := 102) rfl)) rfl (j := 0) rfl ?_
                        refine zp_const (pc := 188) hx hb (zd_X6_value (188, .lconst 1, 1, 0, []) (List.mem_of_getElem? (i := 103) rfl)) rfl rfl ?_
                        refine zp_lcmp (pc := 189) (tgt := 197) hx hb (zd_X6_value (189, .lcmp, 1, 0, []) (List.mem_of_getElem? (i := 104) rfl)) (zd_X6_value (190, .ifCond .ne 7, 3, 0, []) (List.mem_of_getElem? (i := 105) rfl)) rfl (fun (hc355 : ¬ v1 = 1) => ?_) (fun (hc355 : ¬ (¬ v1 = 1)) => ?_)
                        · refine zp_const (pc := 197) hx hb (zd_X6_value (197, .iconst 0, 1, 0, []) (List.mem_of_getElem? (i := 108) rfl)) rfl rfl ?_
                          refine zp_load (pc := 198) hx hb (zd_X6_value (198, .iload 6, 2, 0, []) (List.mem_of_getElem? (i := 109) rfl)) rfl (j := 2) rfl ?_
                          refine zp_const (pc := 200) hx hb (zd_X6_value (200, .iconst 5, 1, 0, []) (List.mem_of_getElem? (i := 110) rfl)) rfl rfl ?_
                          refine zp_icmp (pc := 201) (tgt := 208) hx hb (zd_X6_value (201, .if_icmp .ne 7, 3, 0, []) (List.mem_of_getElem? (i := 111) rfl)) rfl (fun (hc356 : ¬ 5 = 5) => ?_) (fun (hc356 : ¬ (¬ 5 = 5)) => ?_)
                          · exfalso
                            omega
                          · refine zp_const (pc := 204) hx hb (zd_X6_value (204, .iconst 1, 1, 0, []) (List.mem_of_getElem? (i := 112) rfl)) rfl rfl ?_
                            refine zp_goto (tgt := 209) (pc := 205) hx hb (zd_X6_value (205, .goto 4, 3, 0, []) (List.mem_of_getElem? (i := 113) rfl)) rfl ?_
                            refine zp_icmp (pc := 209) (tgt := 218) hx hb (zd_X6_value (209, .if_icmp .eq 9, 3, 0, []) (List.mem_of_getElem? (i := 115) rfl)) rfl (fun (hc357 : 0 = 1) => ?_) (fun (hc357 : ¬ (0 = 1)) => ?_)
                            · exfalso
                              omega
                            · refine zp_iinc (L' := [(4, 0, (d : Int)), (8, 1, v1), (7, 0, (j9 : Int)), (6, 0, 5), (5, 0, (b : Int)), (0, 2, (a : Int)), (1, 2, (xt9 : Int)), (2, 0, (i2 : Int)), (3, 2, (wd9 : Int))]) (n := (d : Int)) (pc := 212) hx hb hnL (zd_X6_value (212, .iinc 4 (-1), 3, 0, []) (List.mem_of_getElem? (i := 116) rfl)) (j := 3) rfl (by omega) (zp_r0 (by omega) (by omega)) rfl rfl ?_
                              refine zp_goto (tgt := 464) (pc := 215) hx hb (zd_X6_value (215, .goto 249, 3, 0, []) (List.mem_of_getElem? (i := 117) rfl)) rfl ?_
                              refine zp_iinc (L' := [(5, 0, ((b : Int) + 2)), (4, 0, (d : Int)), (8, 1, v1), (7, 0, (j9 : Int)), (6, 0, 5), (0, 2, (a : Int)), (1, 2, (xt9 : Int)), (2, 0, (i2 : Int)), (3, 2, (wd9 : Int))]) (n := ((b : Int) + 2)) (pc := 464) hx hb hnL (zd_X6_value (464, .iinc 5 2, 3, 0, []) (List.mem_of_getElem? (i := 223) rfl)) (j := 4) rfl (by omega) (zp_r0 (by omega) (by omega)) rfl rfl ?_
                              refine zp_goto (tgt := 13) (pc := 467) hx hb (zd_X6_value (467, .goto (-454), 3, 0, []) (List.mem_of_getElem? (i := 224) rfl)) rfl ?_
                              refine zp_drop (L' := [(4, 0, (d : Int)), (5, 0, ((b : Int) + 2)), (0, 2, (a : Int)), (1, 2, (xt9 : Int)), (2, 0, (i2 : Int)), (3, 2, (wd9 : Int))]) (by simp) ?_
                              exact kn (by omega)
                        · refine zp_const (pc := 193) hx hb (zd_X6_value (193, .iconst 1, 1, 0, []) (List.mem_of_getElem? (i := 106) rfl)) rfl rfl ?_
                          refine zp_goto (tgt := 198) (pc := 194) hx hb (zd_X6_value (194, .goto 4, 3, 0, []) (List.mem_of_getElem? (i := 107) rfl)) rfl ?_
                          refine zp_load (pc := 198) hx hb (zd_X6_value (198, .iload 6, 2, 0, []) (List.mem_of_getElem? (i := 109) rfl)) rfl (j := 2) rfl ?_
                          refine zp_const (pc := 200) hx hb (zd_X6_value (200, .iconst 5, 1, 0, []) (List.mem_of_getElem? (i := 110) rfl)) rfl rfl ?_
                          refine zp_icmp (pc := 201) (tgt := 208) hx hb (zd_X6_value (201, .if_icmp .ne 7, 3, 0, []) (List.mem_of_getElem? (i := 111) rfl)) rfl (fun (hc358 : ¬ 5 = 5) => ?_) (fun (hc358 : ¬ (¬ 5 = 5)) => ?_)
                          · exfalso
                            omega
                          · refine zp_const (pc := 204) hx hb (zd_X6_value (204, .iconst 1, 1, 0, []) (List.mem_of_getElem? (i := 112) rfl)) rfl rfl ?_
                            refine zp_goto (tgt := 209) (pc := 205) hx hb (zd_X6_value (205, .goto 4, 3, 0, []) (List.mem_of_getElem? (i := 113) rfl)) rfl ?_
                            refine zp_icmp (pc := 209) (tgt := 218) hx hb (zd_X6_value (209, .if_icmp .eq 9, 3, 0, []) (List.mem_of_getElem? (i := 115) rfl)) rfl (fun (hc359 : 1 = 1) => ?_) (fun (hc359 : ¬ (1 = 1)) => ?_)
                            · refine zp_load (pc := 218) hx hb (zd_X6_value (218, .iload 7, 2, 0, []) (List.mem_of_getElem? (i := 118) rfl)) rfl (j := 1) rfl ?_
                              refine zp_const (pc := 220) hx hb (zd_X6_value (220, .iconst 2, 1, 0, []) (List.mem_of_getElem? (i := 119) rfl)) rfl rfl ?_
                              refine zp_sub (n := ((j9 : Int) - 2)) (pc := 221) hx hb (zd_X6_value (221, .isub, 1, 0, []) (List.mem_of_getElem? (i := 120) rfl)) (by omega) (zp_r0 (by omega) (by omega)) ?_
                              refine zp_load (pc := 222) hx hb (zd_X6_value (222, .iload 5, 2, 0, []) (List.mem_of_getElem? (i := 121) rfl)) rfl (j := 4) rfl ?_
                              refine zp_icmp (pc := 224) (tgt := 464) hx hb (zd_X6_value (224, .if_icmp .le 240, 3, 0, []) (List.mem_of_getElem? (i := 122) rfl)) rfl (fun (hc360 : ((j9 : Int) - 2) ≤ (b : Int)) => ?_) (fun (hc360 : ¬ (((j9 : Int) - 2) ≤ (b : Int))) => ?_)
                              · refine zp_iinc (L' := [(5, 0, ((b : Int) + 2)), (8, 1, v1), (7, 0, (j9 : Int)), (6, 0, 5), (4, 0, ((d : Int) + 1)), (0, 2, (a : Int)), (1, 2, (xt9 : Int)), (2, 0, (i2 : Int)), (3, 2, (wd9 : Int))]) (n := ((b : Int) + 2)) (pc := 464) hx hb hnL (zd_X6_value (464, .iinc 5 2, 3, 0, []) (List.mem_of_getElem? (i := 223) rfl)) (j := 4) rfl (by omega) (zp_r0 (by omega) (by omega)) rfl rfl ?_
                                refine zp_goto (tgt := 13) (pc := 467) hx hb (zd_X6_value (467, .goto (-454), 3, 0, []) (List.mem_of_getElem? (i := 224) rfl)) rfl ?_
                                refine zp_drop (L' := [(4, 0, ((d : Int) + 1)), (5, 0, (j9 : Int)), (0, 2, (a : Int)), (1, 2, (xt9 : Int)), (2, 0, (i2 : Int)), (3, 2, (wd9 : Int))]) (by simp <;> omega) ?_
                                exact kj (by omega)
                              · refine zp_load (pc := 227) hx hb (zd_X6_value (227, .iload 7, 2, 0, []) (List.mem_of_getElem? (i := 123) rfl)) rfl (j := 1) rfl ?_
                                refine zp_const (pc := 229) hx hb (zd_X6_value (229, .iconst 2, 1, 0, []) (List.mem_of_getElem? (i := 124) rfl)) rfl rfl ?_
                                refine zp_sub (n := ((j9 : Int) - 2)) (pc := 230) hx hb (zd_X6_value (230, .isub, 1, 0, []) (List.mem_of_getElem? (i := 125) rfl)) (by omega) (zp_r0 (by omega) (by omega)) ?_
                                refine zp_store (L' := [(5, 0, ((j9 : Int) - 2)), (8, 1, v1), (7, 0, (j9 : Int)), (6, 0, 5), (4, 0, ((d : Int) + 1)), (0, 2, (a : Int)), (1, 2, (xt9 : Int)), (2, 0, (i2 : Int)), (3, 2, (wd9 : Int))]) (pc := 231) hx hb hnL (zd_X6_value (231, .istore 5, 2, 0, []) (List.mem_of_getElem? (i := 126) rfl)) rfl rfl rfl ?_
                                refine zp_goto (tgt := 464) (pc := 233) hx hb (zd_X6_value (233, .goto 231, 3, 0, []) (List.mem_of_getElem? (i := 127) rfl)) rfl ?_
                                refine zp_iinc (L' := [(5, 0, (j9 : Int)), (8, 1, v1), (7, 0, (j9 : Int)), (6, 0, 5), (4, 0, ((d : Int) + 1)), (0, 2, (a : Int)), (1, 2, (xt9 : Int)), (2, 0, (i2 : Int)), (3, 2, (wd9 : Int))]) (n := (j9 : Int)) (pc := 464) hx hb hnL (zd_X6_value (464, .iinc 5 2, 3, 0, []) (List.mem_of_getElem? (i := 223) rfl)) (j := 0) rfl (by omega) (zp_r0 (by omega) (by omega)) rfl rfl ?_
                                refine zp_goto (tgt := 13) (pc := 467) hx hb (zd_X6_value (467, .goto (-454), 3, 0, []) (List.mem_of_getElem? (i := 224) rfl)) rfl ?_
                                refine zp_drop (L' := [(4, 0, ((d : Int) + 1)), (5, 0, (j9 : Int)), (0, 2, (a : Int)), (1, 2, (xt9 : Int)), (2, 0, (i2 : Int)), (3, 2, (wd9 : Int))]) (by simp <;> omega) ?_
                                exact kj (by omega)
                            · exfalso
                              omega
                  · exfalso
                    omega
                · exfalso
                  omega
              · exfalso
                omega
            · exfalso
              omega
  have step_6 : ∀ (b d : Nat) (v1 v2 : Int) (G : Nat → Nat → Int), b < e9 → d + 2 < 64 → zgV a xt9 cd st wd9 N C Wd G → C b = 6 → G st (2000 + d) = v1 → G st (2000 + (d + 1)) = v2 → -2147483648 ≤ v1 ∧ v1 ≤ 2147483648 → -2147483648 ≤ v2 ∧ v2 ≤ 2147483648 → (∀ (v : Int) (G' : Nat → Nat → Int), yd_bn 20 v1 v2 = some v → zgV a xt9 cd st wd9 N C Wd G' → (∀ j, j < d → G' st (2000 + j) = G st (2000 + j)) → G' st (2000 + d) = v → zp_J p l e R s m args below meth c Q w u [] 13 [(4, 0, ((d + 1 : Nat) : Int)), (5, 0, ((b + 2 : Nat) : Int)), (0, 2, (a : Int)), (1, 2, (xt9 : Int)), (2, 0, (i2 : Int)), (3, 2, (wd9 : Int))] [] u.1 G') → (yd_bn 20 v1 v2 = none → x en = none) → zp_J p l e R s m args below meth c Q w u [] 13 [(4, 0, ((d + 2 : Nat) : Int)), (5, 0, ((b : Nat) : Int)), (0, 2, (a : Int)), (1, 2, (xt9 : Int)), (2, 0, (i2 : Int)), (3, 2, (wd9 : Int))] [] u.1 G := by
    clear step_l1 step_l2 exitv step_nt step_b4 step_b5
    intro b d v1 v2 G hb2 hd hm o1 e1 e2 bd1 bd2 kk kb
    have ho1 : G cd (2000 + b) = 6 := (hm.2.2.2.1 b).trans o1
    refine zp_drop (L' := [(4, 0, ((d : Int) + 2)), (5, 0, (b : Int)), (0, 2, (a : Int)), (1, 2, (xt9 : Int)), (2, 0, (i2 : Int)), (3, 2, (wd9 : Int))]) (by simp <;> omega) ?_
    have h99 : zk_rg 1 (-9000000000) := ⟨by decide, by decide⟩
    have hl13 := hm.2.2.1
    refine zp_load (pc := 13) hx hb (zd_X6_value (13, .iload 5, 2, 0, []) (List.mem_of_getElem? (i := 9) rfl)) rfl (j := 1) rfl ?_
    refine zp_if (pc := 15) (tgt := 470) hx hb (zd_X6_value (15, .ifCond .lt 455, 3, 0, []) (List.mem_of_getElem? (i := 10) rfl)) rfl (fun (hc361 : (b : Int) < 0) => ?_) (fun (hc361 : ¬ ((b : Int) < 0)) => ?_)
    · exfalso
      omega
    · refine zp_load (pc := 18) hx hb (zd_X6_value (18, .iload 5, 2, 0, []) (List.mem_of_getElem? (i := 11) rfl)) rfl (j := 1) rfl ?_
      refine zp_const (pc := 20) hx hb (zd_X6_value (20, .iconst 1, 1, 0, []) (List.mem_of_getElem? (i := 12) rfl)) rfl rfl ?_
      refine zp_add (n := ((b : Int) + 1)) (pc := 21) hx hb (zd_X6_value (21, .iadd, 1, 0, []) (List.mem_of_getElem? (i := 13) rfl)) (by omega) (zp_r0 (by omega) (by omega)) ?_
      refine zp_load (pc := 22) hx hb (zd_X6_value (22, .aload_n 1, 1, 0, []) (List.mem_of_getElem? (i := 14) rfl)) rfl (j := 3) rfl ?_
      refine zp_getf (n := (cd : Int)) (pc := 23) hx hb hE hw (zd_X6_value (23, .getfield 86, 3, 0, []) (List.mem_of_getElem? (i := 15) rfl)) (j := 10) rfl rfl rfl qxt hm.2.1 ?_
      refine zp_alenN (N := N) (pc := 26) hx hb hw (zd_X6_value (26, .arraylength, 1, 0, []) (List.mem_of_getElem? (i := 16) rfl)) qcd ⟨_, rfl, by decide, by decide⟩ hm.2.2.1 ?_
      refine zp_icmp (pc := 27) (tgt := 470) hx hb (zd_X6_value (27, .if_icmp .ge 443, 3, 0, []) (List.mem_of_getElem? (i := 17) rfl)) rfl (fun (hc362 : (N : Int) ≤ ((b : Int) + 1)) => ?_) (fun (hc362 : ¬ ((N : Int) ≤ ((b : Int) + 1))) => ?_)
      · exfalso
        omega
      · refine zp_load (pc := 30) hx hb (zd_X6_value (30, .iload 4, 2, 0, []) (List.mem_of_getElem? (i := 18) rfl)) rfl (j := 0) rfl ?_
        refine zp_const (pc := 32) hx hb (zd_X6_value (32, .bipush 64, 2, 0, []) (List.mem_of_getElem? (i := 19) rfl)) rfl rfl ?_
        refine zp_icmp (pc := 34) (tgt := 470) hx hb (zd_X6_value (34, .if_icmp .ge 436, 3, 0, []) (List.mem_of_getElem? (i := 20) rfl)) rfl (fun (hc363 : 64 ≤ ((d : Int) + 2)) => ?_) (fun (hc363 : ¬ (64 ≤ ((d : Int) + 2))) => ?_)
        · exfalso
          omega
        · refine zp_load (pc := 37) hx hb (zd_X6_value (37, .aload_n 1, 1, 0, []) (List.mem_of_getElem? (i := 21) rfl)) rfl (j := 3) rfl ?_
          refine zp_getf (n := (cd : Int)) (pc := 38) hx hb hE hw (zd_X6_value (38, .getfield 86, 3, 0, []) (List.mem_of_getElem? (i := 22) rfl)) (j := 10) rfl rfl rfl qxt hm.2.1 ?_
          refine zp_load (pc := 41) hx hb (zd_X6_value (41, .iload 5, 2, 0, []) (List.mem_of_getElem? (i := 23) rfl)) rfl (j := 1) rfl ?_
          refine zp_ialdN (j := b) (v := 6) (N := N) (pc := 43) hx hb hw (zd_X6_value (43, .iaload, 1, 0, []) (List.mem_of_getElem? (i := 24) rfl)) (show zp_ia 1 35 = some (872, 0, 0, (-1000000), 1000000) from rfl) ⟨_, rfl, by decide⟩ hm.2.2.1 qcd (by omega) (by omega) ho1 (fun hk364 => ?_)
          have hk364b := zp_int hk364
          refine zp_store (L' := [(6, 0, 6), (4, 0, ((d : Int) + 2)), (5, 0, (b : Int)), (0, 2, (a : Int)), (1, 2, (xt9 : Int)), (2, 0, (i2 : Int)), (3, 2, (wd9 : Int))]) (pc := 44) hx hb hnL (zd_X6_value (44, .istore 6, 2, 0, []) (List.mem_of_getElem? (i := 25) rfl)) rfl rfl rfl ?_
          refine zp_load (pc := 46) hx hb (zd_X6_value (46, .aload_n 1, 1, 0, []) (List.mem_of_getElem? (i := 26) rfl)) rfl (j := 4) rfl ?_
          refine zp_getf (n := (cd : Int)) (pc := 47) hx hb hE hw (zd_X6_value (47, .getfield 86, 3, 0, []) (List.mem_of_getElem? (i := 27) rfl)) (j := 10) rfl rfl rfl qxt hm.2.1 ?_
          refine zp_load (pc := 50) hx hb (zd_X6_value (50, .iload 5, 2, 0, []) (List.mem_of_getElem? (i := 28) rfl)) rfl (j := 2) rfl ?_
          refine zp_const (pc := 52) hx hb (zd_X6_value (52, .iconst 1, 1, 0, []) (List.mem_of_getElem? (i := 29) rfl)) rfl rfl ?_
          refine zp_add (n := ((b : Int) + 1)) (pc := 53) hx hb (zd_X6_value (53, .iadd, 1, 0, []) (List.mem_of_getElem? (i := 30) rfl)) (by omega) (zp_r0 (by omega) (by omega)) ?_
          refine zp_ialdN (j := (b + 1)) (v := (C (b + 1))) (N := N) (pc := 54) hx hb hw (zd_X6_value (54, .iaload, 1, 0, []) (List.mem_of_getElem? (i := 31) rfl)) (show zp_ia 1 35 = some (872, 0, 0, (-1000000), 1000000) from rfl) ⟨_, rfl, by decide⟩ hm.2.2.1 qcd (by omega) (by omega) (hm.2.2.2.1 (b + 1)) (fun hk365 => ?_)
          have hk365b := zp_int hk365
          refine zp_store (L' := [(7, 0, (C (b + 1))), (6, 0, 6), (4, 0, ((d : Int) + 2)), (5, 0, (b : Int)), (0, 2, (a : Int)), (1, 2, (xt9 : Int)), (2, 0, (i2 : Int)), (3, 2, (wd9 : Int))]) (pc := 55) hx hb hnL (zd_X6_value (55, .istore 7, 2, 0, []) (List.mem_of_getElem? (i := 32) rfl)) rfl rfl rfl ?_
          refine zp_load (pc := 57) hx hb (zd_X6_value (57, .iload 6, 2, 0, []) (List.mem_of_getElem? (i := 33) rfl)) rfl (j := 1) rfl ?_
          refine zp_const (pc := 59) hx hb (zd_X6_value (59, .iconst 1, 1, 0, []) (List.mem_of_getElem? (i := 34) rfl)) rfl rfl ?_
          refine zp_icmp (pc := 60) (tgt := 69) hx hb (zd_X6_value (60, .if_icmp .eq 9, 3, 0, []) (List.mem_of_getElem? (i := 35) rfl)) rfl (fun (hc366 : 6 = 1) => ?_) (fun (hc366 : ¬ (6 = 1)) => ?_)
          · exfalso
            omega
          · refine zp_load (pc := 63) hx hb (zd_X6_value (63, .iload 6, 2, 0, []) (List.mem_of_getElem? (i := 36) rfl)) rfl (j := 1) rfl ?_
            refine zp_const (pc := 65) hx hb (zd_X6_value (65, .iconst 2, 1, 0, []) (List.mem_of_getElem? (i := 37) rfl)) rfl rfl ?_
            refine zp_icmp (pc := 66) (tgt := 123) hx hb (zd_X6_value (66, .if_icmp .ne 57, 3, 0, []) (List.mem_of_getElem? (i := 38) rfl)) rfl (fun (hc367 : ¬ 6 = 2) => ?_) (fun (hc367 : ¬ (¬ 6 = 2)) => ?_)
            · refine zp_load (pc := 123) hx hb (zd_X6_value (123, .iload 4, 2, 0, []) (List.mem_of_getElem? (i := 67) rfl)) rfl (j := 2) rfl ?_
              refine zp_const (pc := 125) hx hb (zd_X6_value (125, .iconst 1, 1, 0, []) (List.mem_of_getElem? (i := 68) rfl)) rfl rfl ?_
              refine zp_icmp (pc := 126) (tgt := 133) hx hb (zd_X6_value (126, .if_icmp .ge 7, 3, 0, []) (List.mem_of_getElem? (i := 69) rfl)) rfl (fun (hc368 : 1 ≤ ((d : Int) + 2)) => ?_) (fun (hc368 : ¬ (1 ≤ ((d : Int) + 2))) => ?_)
              · refine zp_load (pc := 133) hx hb (zd_X6_value (133, .aload_n 0, 1, 0, []) (List.mem_of_getElem? (i := 72) rfl)) rfl (j := 4) rfl ?_
                refine zp_getf (n := (st : Int)) (pc := 134) hx hb hE hw (zd_X6_value (134, .getfield 15, 3, 0, []) (List.mem_of_getElem? (i := 73) rfl)) (j := 5) rfl rfl rfl hp hm.1 ?_
                refine zp_load (pc := 137) hx hb (zd_X6_value (137, .iload 4, 2, 0, []) (List.mem_of_getElem? (i := 74) rfl)) rfl (j := 2) rfl ?_
                refine zp_const (pc := 139) hx hb (zd_X6_value (139, .iconst 1, 1, 0, []) (List.mem_of_getElem? (i := 75) rfl)) rfl rfl ?_
                refine zp_sub (n := ((d : Int) + 1)) (pc := 140) hx hb (zd_X6_value (140, .isub, 1, 0, []) (List.mem_of_getElem? (i := 76) rfl)) (by omega) (zp_r0 (by omega) (by omega)) ?_
                refine zp_lald (j := (d + 1)) (v := v2) (pc := 141) hx hb hw (zd_X6_value (141, .laload, 1, 0, []) (List.mem_of_getElem? (i := 77) rfl)) (show zp_ia 2 28 = some (64, 1, 0, (-9223372036854775808), 9223372036854775807) from rfl) qst (by omega) (by omega) e2 ?_
                refine zp_store (L' := [(8, 1, v2), (7, 0, (C (b + 1))), (6, 0, 6), (4, 0, ((d : Int) + 2)), (5, 0, (b : Int)), (0, 2, (a : Int)), (1, 2, (xt9 : Int)), (2, 0, (i2 : Int)), (3, 2, (wd9 : Int))]) (pc := 142) hx hb hnL (zd_X6_value (142, .lstore 8, 2, 0, []) (List.mem_of_getElem? (i := 78) rfl)) rfl rfl rfl ?_
                refine zp_load (pc := 144) hx hb (zd_X6_value (144, .iload 6, 2, 0, []) (List.mem_of_getElem? (i := 79) rfl)) rfl (j := 2) rfl ?_
                refine zp_if (pc := 146) (tgt := 152) hx hb (zd_X6_value (146, .ifCond .ne 6, 3, 0, []) (List.mem_of_getElem? (i := 80) rfl)) rfl (fun (hc370 : ¬ 6 = 0) => ?_) (fun (hc370 : ¬ (¬ 6 = 0)) => ?_)
                · refine zp_load (pc := 152) hx hb (zd_X6_value (152, .iload 6, 2, 0, []) (List.mem_of_getElem? (i := 83) rfl)) rfl (j := 2) rfl ?_
                  refine zp_const (pc := 154) hx hb (zd_X6_value (154, .iconst 3, 1, 0, []) (List.mem_of_getElem? (i := 84) rfl)) rfl rfl ?_
                  refine zp_icmp (pc := 155) (tgt := 174) hx hb (zd_X6_value (155, .if_icmp .ne 19, 3, 0, []) (List.mem_of_getElem? (i := 85) rfl)) rfl (fun (hc371 : ¬ 6 = 3) => ?_) (fun (hc371 : ¬ (¬ 6 = 3)) => ?_)
                  · refine zp_load (pc := 174) hx hb (zd_X6_value (174, .iload 6, 2, 0, []) (List.mem_of_getElem? (i := 96) rfl)) rfl (j := 2) rfl ?_
                    refine zp_const (pc := 176) hx hb (zd_X6_value (176, .iconst 4, 1, 0, []) (List.mem_of_getElem? (i := 97) rfl)) rfl rfl ?_
                    refine zp_icmp (pc := 177) (tgt := 186) hx hb (zd_X6_value (177, .if_icmp .eq 9, 3, 0, []) (List.mem_of_getElem? (i := 98) rfl)) rfl (fun (hc372 : 6 = 4) => ?_) (fun (hc372 : ¬ (6 = 4)) => ?_)
                    · exfalso
                      omega
                    · refine zp_load (pc := 180) hx hb (zd_X6_value (180, .iload 6, 2, 0, []) (List.mem_of_getElem? (i := 99) rfl)) rfl (j := 2) rfl ?_
                      refine zp_const (pc := 182) hx hb (zd_X6_value (182, .iconst 5, 1, 0, []) (List.mem_of_getElem? (i := 100) rfl)) rfl rfl ?_
                      refine zp_icmp (pc := 183) (tgt := 236) hx hb (zd_X6_value (183, .if_icmp .ne 53, 3, 0, []) (List.mem_of_getElem? (i := 101) rfl)) rfl (fun (hc373 : ¬ 6 = 5) => ?_) (fun (hc373 : ¬ (¬ 6 = 5)) => ?_)
                      · refine zp_load (pc := 236) hx hb (zd_X6_value (236, .iload 4, 2, 0, []) (List.mem_of_getElem? (i := 128) rfl)) rfl (j := 3) rfl ?_
                        refine zp_const (pc := 238) hx hb (zd_X6_value (238, .iconst 2, 1, 0, []) (List.mem_of_getElem? (i := 129) rfl)) rfl rfl ?_
                        refine zp_icmp (pc := 239) (tgt := 246) hx hb (zd_X6_value (239, .if_icmp .ge 7, 3, 0, []) (List.mem_of_getElem? (i := 130) rfl)) rfl (fun (hc374 : 2 ≤ ((d : Int) + 2)) => ?_) (fun (hc374 : ¬ (2 ≤ ((d : Int) + 2))) => ?_)
                        · refine zp_iinc (L' := [(4, 0, ((d : Int) + 1)), (8, 1, v2), (7, 0, (C (b + 1))), (6, 0, 6), (5, 0, (b : Int)), (0, 2, (a : Int)), (1, 2, (xt9 : Int)), (2, 0, (i2 : Int)), (3, 2, (wd9 : Int))]) (n := ((d : Int) + 1)) (pc := 246) hx hb hnL (zd_X6_value (246, .iinc 4 (-1), 3, 0, []) (List.mem_of_getElem? (i := 133) rfl)) (j := 3) rfl (by omega) (zp_r0 (by omega) (by omega)) rfl rfl ?_
                          refine zp_load (pc := 249) hx hb (zd_X6_value (249, .aload_n 0, 1, 0, []) (List.mem_of_getElem? (i := 134) rfl)) rfl (j := 5) rfl ?_
                          refine zp_getf (n := (st : Int)) (pc := 250) hx hb hE hw (zd_X6_value (250, .getfield 15, 3, 0, []) (List.mem_of_getElem? (i := 135) rfl)) (j := 5) rfl rfl rfl hp hm.1 ?_
                          refine zp_load (pc := 253) hx hb (zd_X6_value (253, .iload 4, 2, 0, []) (List.mem_of_getElem? (i := 136) rfl)) rfl (j := 0) rfl ?_
                          refine zp_const (pc := 255) hx hb (zd_X6_value (255, .iconst 1, 1, 0, []) (List.mem_of_getElem? (i := 137) rfl)) rfl rfl ?_
                          refine zp_sub (n := (d : Int)) (pc := 256) hx hb (zd_X6_value (256, .isub, 1, 0, []) (List.mem_of_getElem? (i := 138) rfl)) (by omega) (zp_r0 (by omega) (by omega)) ?_
                          refine zp_lald (j := d) (v := v1) (pc := 257) hx hb hw (zd_X6_value (257, .laload, 1, 0, []) (List.mem_of_getElem? (i := 139) rfl)) (show zp_ia 2 28 = some (64, 1, 0, (-9223372036854775808), 9223372036854775807) from rfl) qst (by omega) (by omega) e1 ?_
                          refine zp_store (L' := [(10, 1, v1), (4, 0, ((d : Int) + 1)), (8, 1, v2), (7, 0, (C (b + 1))), (6, 0, 6), (5, 0, (b : Int)), (0, 2, (a : Int)), (1, 2, (xt9 : Int)), (2, 0, (i2 : Int)), (3, 2, (wd9 : Int))]) (pc := 258) hx hb hnL (zd_X6_value (258, .lstore 10, 2, 0, []) (List.mem_of_getElem? (i := 140) rfl)) rfl rfl rfl ?_
                          refine zp_load (pc := 260) hx hb (zd_X6_value (260, .iload 6, 2, 0, []) (List.mem_of_getElem? (i := 141) rfl)) rfl (j := 4) rfl ?_
                          refine zp_tin (tgt := 304) (off := 42) (pc := 262) hx hb (zd_X6_value (262, .tableswitch 154 6 12 #[42, 52, 62, 72, 95, 118, 136], 42, 0, []) (List.mem_of_getElem? (i := 142) rfl)) (by decide) (by decide) (by decide) rfl ?_
                          refine zp_load (pc := 304) hx hb (zd_X6_value (304, .lload 10, 2, 0, []) (List.mem_of_getElem? (i := 143) rfl)) rfl (j := 0) rfl ?_
                          refine zp_load (pc := 306) hx hb (zd_X6_value (306, .lload 8, 2, 0, []) (List.mem_of_getElem? (i := 144) rfl)) rfl (j := 2) rfl ?_
                          refine zp_laddx (n := (v1 + v2)) (pc := 308) hx hb (zd_X6_value (308, .ladd, 1, 0, []) (List.mem_of_getElem? (i := 145) rfl)) rfl (zp_r1 (by omega) (by omega)) ?_
                          refine zp_store (L' := [(12, 1, (v1 + v2)), (10, 1, v1), (4, 0, ((d : Int) + 1)), (8, 1, v2), (7, 0, (C (b + 1))), (6, 0, 6), (5, 0, (b : Int)), (0, 2, (a : Int)), (1, 2, (xt9 : Int)), (2, 0, (i2 : Int)), (3, 2, (wd9 : Int))]) (pc := 309) hx hb hnL (zd_X6_value (309, .lstore 12, 2, 0, []) (List.mem_of_getElem? (i := 146) rfl)) rfl rfl rfl ?_
                          refine zp_goto (tgt := 431) (pc := 311) hx hb (zd_X6_value (311, .goto 120, 3, 0, []) (List.mem_of_getElem? (i := 147) rfl)) rfl ?_
                          refine zp_load (pc := 431) hx hb (zd_X6_value (431, .lload 12, 2, 0, []) (List.mem_of_getElem? (i := 206) rfl)) rfl (j := 0) rfl ?_
                          refine zp_ldc2 (pc := 433) hx hb hE (zd_X6_value (433, .ldc2_w 89, 3, 0, []) (List.mem_of_getElem? (i := 207) rfl)) (j := 13) rfl ?_
                          refine zp_lcmp (pc := 436) (tgt := 449) hx hb (zd_X6_value (436, .lcmp, 1, 0, []) (List.mem_of_getElem? (i := 208) rfl)) (zd_X6_value (437, .ifCond .gt 12, 3, 0, []) (List.mem_of_getElem? (i := 209) rfl)) rfl (fun (hc376 : 1000000000 < (v1 + v2)) => ?_) (fun (hc376 : ¬ (1000000000 < (v1 + v2))) => ?_)
                          · refine zp_ldc2 (pc := 449) hx hb hE (zd_X6_value (449, .ldc2_w 53, 3, 0, []) (List.mem_of_getElem? (i := 214) rfl)) (j := 12) rfl ?_
                            have hz : x en = none := kb (zg_bnn (fun h => absurd h.1 (by decide)) (show (v1 + v2) = yd_v 20 v1 v2 from rfl) (by omega))
                            refine zp_lret (pc := 452) (n := (-9000000000)) hx hb hE hQ hU5 rfl (by decide) (zd_X6_value (452, .lreturn, 1, 0, []) (List.mem_of_getElem? (i := 215) rfl)) (j := 0) rfl (zp_o1 (by first | assumption | exact zp_r1 (by omega) (by omega))) ?_
                            rw [hps]
                            exact ⟨rfl, fun v hv => (by rw [hz] at hv; cases hv), fun _ => rfl⟩
                          · refine zp_load (pc := 440) hx hb (zd_X6_value (440, .lload 12, 2, 0, []) (List.mem_of_getElem? (i := 210) rfl)) rfl (j := 0) rfl ?_
                            refine zp_ldc2 (pc := 442) hx hb hE (zd_X6_value (442, .ldc2_w 91, 3, 0, []) (List.mem_of_getElem? (i := 211) rfl)) (j := 14) rfl ?_
                            refine zp_lcmp (pc := 445) (tgt := 453) hx hb (zd_X6_value (445, .lcmp, 1, 0, []) (List.mem_of_getElem? (i := 212) rfl)) (zd_X6_value (446, .ifCond .ge 7, 3, 0, []) (List.mem_of_getElem? (i := 213) rfl)) rfl (fun (hc377 : (-1000000000) ≤ (v1 + v2)) => ?_) (fun (hc377 : ¬ ((-1000000000) ≤ (v1 + v2))) => ?_)
                            · refine zp_load (pc := 453) hx hb (zd_X6_value (453, .aload_n 0, 1, 0, []) (List.mem_of_getElem? (i := 216) rfl)) rfl (j := 7) rfl ?_
                              refine zp_getf (n := (st : Int)) (pc := 454) hx hb hE hw (zd_X6_value (454, .getfield 15, 3, 0, []) (List.mem_of_getElem? (i := 217) rfl)) (j := 5) rfl rfl rfl hp hm.1 ?_
                              refine zp_load (pc := 457) hx hb (zd_X6_value (457, .iload 4, 2, 0, []) (List.mem_of_getElem? (i := 218) rfl)) rfl (j := 2) rfl ?_
                              refine zp_const (pc := 459) hx hb (zd_X6_value (459, .iconst 1, 1, 0, []) (List.mem_of_getElem? (i := 219) rfl)) rfl rfl ?_
                              refine zp_sub (n := (d : Int)) (pc := 460) hx hb (zd_X6_value (460, .isub, 1, 0, []) (List.mem_of_getElem? (i := 220) rfl)) (by omega) (zp_r0 (by omega) (by omega)) ?_
                              refine zp_load (pc := 461) hx hb (zd_X6_value (461, .lload 12, 2, 0, []) (List.mem_of_getElem? (i := 221) rfl)) rfl (j := 0) rfl ?_
                              refine zp_last (j := d) (pc := 463) hx hb hw heff (zd_X6_value (463, .lastore, 1, 0, []) (List.mem_of_getElem? (i := 222) rfl)) (show zp_ia 2 28 = some (64, 1, 0, (-9223372036854775808), 9223372036854775807) from rfl) qst (by omega) (by omega) rfl ?_
                              refine zp_iinc (L' := [(5, 0, ((b : Int) + 2)), (12, 1, (v1 + v2)), (10, 1, v1), (4, 0, ((d : Int) + 1)), (8, 1, v2), (7, 0, (C (b + 1))), (6, 0, 6), (0, 2, (a : Int)), (1, 2, (xt9 : Int)), (2, 0, (i2 : Int)), (3, 2, (wd9 : Int))]) (n := ((b : Int) + 2)) (pc := 464) hx hb hnL (zd_X6_value (464, .iinc 5 2, 3, 0, []) (List.mem_of_getElem? (i := 223) rfl)) (j := 6) rfl (by omega) (zp_r0 (by omega) (by omega)) rfl rfl ?_
                              refine zp_goto (tgt := 13) (pc := 467) hx hb (zd_X6_value (467, .goto (-454), 3, 0, []) (List.mem_of_getElem? (i := 224) rfl)) rfl ?_
                              refine zp_drop (L' := [(4, 0, ((d : Int) + 1)), (5, 0, ((b : Int) + 2)), (0, 2, (a : Int)), (1, 2, (xt9 : Int)), (2, 0, (i2 : Int)), (3, 2, (wd9 : Int))]) (by simp) ?_
                              exact kk (v1 + v2) _ (zg_bns (fun h => absurd h.1 (by decide)) (show (v1 + v2) = yd_v 20 v1 v2 from rfl) (by omega) (by omega)) (zgV_s hm n1 n2 n3 n4) (fun j hj => zp_set_ne (Or.inr (by omega))) zp_set_self
                            · refine zp_ldc2 (pc := 449) hx hb hE (zd_X6_value (449, .ldc2_w 53, 3, 0, []) (List.mem_of_getElem? (i := 214) rfl)) (j := 12) rfl ?_
                              have hz : x en = none := kb (zg_bnn (fun h => absurd h.1 (by decide)) (show (v1 + v2) = yd_v 20 v1 v2 from rfl) (by omega))
                              refine zp_lret (pc := 452) (n := (-9000000000)) hx hb hE hQ hU5 rfl (by decide) (zd_X6_value (452, .lreturn, 1, 0, []) (List.mem_of_getElem? (i := 215) rfl)) (j := 0) rfl (zp_o1 (by first | assumption | exact zp_r1 (by omega) (by omega))) ?_
                              rw [hps]
                              exact ⟨rfl, fun v hv => (by rw [hz] at hv; cases hv), fun _ => rfl⟩
                        · exfalso
                          omega
                      · exfalso
                        omega
                  · exfalso
                    omega
                · exfalso
                  omega
              · exfalso
                omega
            · exfalso
              omega
  have step_7 : ∀ (b d : Nat) (v1 v2 : Int) (G : Nat → Nat → Int), b < e9 → d + 2 < 64 → zgV a xt9 cd st wd9 N C Wd G → C b = 7 → G st (2000 + d) = v1 → G st (2000 + (d + 1)) = v2 → -2147483648 ≤ v1 ∧ v1 ≤ 2147483648 → -2147483648 ≤ v2 ∧ v2 ≤ 2147483648 → (∀ (v : Int) (G' : Nat → Nat → Int), yd_bn 21 v1 v2 = some v → zgV a xt9 cd st wd9 N C Wd G' → (∀ j, j < d → G' st (2000 + j) = G st (2000 + j)) → G' st (2000 + d) = v → zp_J p l e R s m args below meth c Q w u [] 13 [(4, 0, ((d + 1 : Nat) : Int)), (5, 0, ((b + 2 : Nat) : Int)), (0, 2, (a : Int)), (1, 2, (xt9 : Int)), (2, 0, (i2 : Int)), (3, 2, (wd9 : Int))] [] u.1 G') → (yd_bn 21 v1 v2 = none → x en = none) → zp_J p l e R s m args below meth c Q w u [] 13 [(4, 0, ((d + 2 : Nat) : Int)), (5, 0, ((b : Nat) : Int)), (0, 2, (a : Int)), (1, 2, (xt9 : Int)), (2, 0, (i2 : Int)), (3, 2, (wd9 : Int))] [] u.1 G := by
    clear step_l1 step_l2 exitv step_nt step_b4 step_b5 step_6
    intro b d v1 v2 G hb2 hd hm o1 e1 e2 bd1 bd2 kk kb
    have ho1 : G cd (2000 + b) = 7 := (hm.2.2.2.1 b).trans o1
    refine zp_drop (L' := [(4, 0, ((d : Int) + 2)), (5, 0, (b : Int)), (0, 2, (a : Int)), (1, 2, (xt9 : Int)), (2, 0, (i2 : Int)), (3, 2, (wd9 : Int))]) (by simp <;> omega) ?_
    have h99 : zk_rg 1 (-9000000000) := ⟨by decide, by decide⟩
    have hl13 := hm.2.2.1
    refine zp_load (pc := 13) hx hb (zd_X6_value (13, .iload 5, 2, 0, []) (List.mem_of_getElem? (i := 9) rfl)) rfl (j := 1) rfl ?_
    refine zp_if (pc := 15) (tgt := 470) hx hb (zd_X6_value (15, .ifCond .lt 455, 3, 0, []) (List.mem_of_getElem? (i := 10) rfl)) rfl (fun (hc378 : (b : Int) < 0) => ?_) (fun (hc378 : ¬ ((b : Int) < 0)) => ?_)
    · exfalso
      omega
    · refine zp_load (pc := 18) hx hb (zd_X6_value (18, .iload 5, 2, 0, []) (List.mem_of_getElem? (i := 11) rfl)) rfl (j := 1) rfl ?_
      refine zp_const (pc := 20) hx hb (zd_X6_value (20, .iconst 1, 1, 0, []) (List.mem_of_getElem? (i := 12) rfl)) rfl rfl ?_
      refine zp_add (n := ((b : Int) + 1)) (pc := 21) hx hb (zd_X6_value (21, .iadd, 1, 0, []) (List.mem_of_getElem? (i := 13) rfl)) (by omega) (zp_r0 (by omega) (by omega)) ?_
      refine zp_load (pc := 22) hx hb (zd_X6_value (22, .aload_n 1, 1, 0, []) (List.mem_of_getElem? (i := 14) rfl)) rfl (j := 3) rfl ?_
      refine zp_getf (n := (cd : Int)) (pc := 23) hx hb hE hw (zd_X6_value (23, .getfield 86, 3, 0, []) (List.mem_of_getElem? (i := 15) rfl)) (j := 10) rfl rfl rfl qxt hm.2.1 ?_
      refine zp_alenN (N := N) (pc := 26) hx hb hw (zd_X6_value (26, .arraylength, 1, 0, []) (List.mem_of_getElem? (i := 16) rfl)) qcd ⟨_, rfl, by decide, by decide⟩ hm.2.2.1 ?_
      refine zp_icmp (pc := 27) (tgt := 470) hx hb (zd_X6_value (27, .if_icmp .ge 443, 3, 0, []) (List.mem_of_getElem? (i := 17) rfl)) rfl (fun (hc379 : (N : Int) ≤ ((b : Int) + 1)) => ?_) (fun (hc379 : ¬ ((N : Int) ≤ ((b : Int) + 1))) => ?_)
      · exfalso
        omega
      · refine zp_load (pc := 30) hx hb (zd_X6_value (30, .iload 4, 2, 0, []) (List.mem_of_getElem? (i := 18) rfl)) rfl (j := 0) rfl ?_
        refine zp_const (pc := 32) hx hb (zd_X6_value (32, .bipush 64, 2, 0, []) (List.mem_of_getElem? (i := 19) rfl)) rfl rfl ?_
        refine zp_icmp (pc := 34) (tgt := 470) hx hb (zd_X6_value (34, .if_icmp .ge 436, 3, 0, []) (List.mem_of_getElem? (i := 20) rfl)) rfl (fun (hc380 : 64 ≤ ((d : Int) + 2)) => ?_) (fun (hc380 : ¬ (64 ≤ ((d : Int) + 2))) => ?_)
        · exfalso
          omega
        · refine zp_load (pc := 37) hx hb (zd_X6_value (37, .aload_n 1, 1, 0, []) (List.mem_of_getElem? (i := 21) rfl)) rfl (j := 3) rfl ?_
          refine zp_getf (n := (cd : Int)) (pc := 38) hx hb hE hw (zd_X6_value (38, .getfield 86, 3, 0, []) (List.mem_of_getElem? (i := 22) rfl)) (j := 10) rfl rfl rfl qxt hm.2.1 ?_
          refine zp_load (pc := 41) hx hb (zd_X6_value (41, .iload 5, 2, 0, []) (List.mem_of_getElem? (i := 23) rfl)) rfl (j := 1) rfl ?_
          refine zp_ialdN (j := b) (v := 7) (N := N) (pc := 43) hx hb hw (zd_X6_value (43, .iaload, 1, 0, []) (List.mem_of_getElem? (i := 24) rfl)) (show zp_ia 1 35 = some (872, 0, 0, (-1000000), 1000000) from rfl) ⟨_, rfl, by decide⟩ hm.2.2.1 qcd (by omega) (by omega) ho1 (fun hk381 => ?_)
          have hk381b := zp_int hk381
          refine zp_store (L' := [(6, 0, 7), (4, 0, ((d : Int) + 2)), (5, 0, (b : Int)), (0, 2, (a : Int)), (1, 2, (xt9 : Int)), (2, 0, (i2 : Int)), (3, 2, (wd9 : Int))]) (pc := 44) hx hb hnL (zd_X6_value (44, .istore 6, 2, 0, []) (List.mem_of_getElem? (i := 25) rfl)) rfl rfl rfl ?_
          refine zp_load (pc := 46) hx hb (zd_X6_value (46, .aload_n 1, 1, 0, []) (List.mem_of_getElem? (i := 26) rfl)) rfl (j := 4) rfl ?_
          refine zp_getf (n := (cd : Int)) (pc := 47) hx hb hE hw (zd_X6_value (47, .getfield 86, 3, 0, []) (List.mem_of_getElem? (i := 27) rfl)) (j := 10) rfl rfl rfl qxt hm.2.1 ?_
          refine zp_load (pc := 50) hx hb (zd_X6_value (50, .iload 5, 2, 0, []) (List.mem_of_getElem? (i := 28) rfl)) rfl (j := 2) rfl ?_
          refine zp_const (pc := 52) hx hb (zd_X6_value (52, .iconst 1, 1, 0, []) (List.mem_of_getElem? (i := 29) rfl)) rfl rfl ?_
          refine zp_add (n := ((b : Int) + 1)) (pc := 53) hx hb (zd_X6_value (53, .iadd, 1, 0, []) (List.mem_of_getElem? (i := 30) rfl)) (by omega) (zp_r0 (by omega) (by omega)) ?_
          refine zp_ialdN (j := (b + 1)) (v := (C (b + 1))) (N := N) (pc := 54) hx hb hw (zd_X6_value (54, .iaload, 1, 0, []) (List.mem_of_getElem? (i := 31) rfl)) (show zp_ia 1 35 = some (872, 0, 0, (-1000000), 1000000) from rfl) ⟨_, rfl, by decide⟩ hm.2.2.1 qcd (by omega) (by omega) (hm.2.2.2.1 (b + 1)) (fun hk382 => ?_)
          have hk382b := zp_int hk382
          refine zp_store (L' := [(7, 0, (C (b + 1))), (6, 0, 7), (4, 0, ((d : Int) + 2)), (5, 0, (b : Int)), (0, 2, (a : Int)), (1, 2, (xt9 : Int)), (2, 0, (i2 : Int)), (3, 2, (wd9 : Int))]) (pc := 55) hx hb hnL (zd_X6_value (55, .istore 7, 2, 0, []) (List.mem_of_getElem? (i := 32) rfl)) rfl rfl rfl ?_
          refine zp_load (pc := 57) hx hb (zd_X6_value (57, .iload 6, 2, 0, []) (List.mem_of_getElem? (i := 33) rfl)) rfl (j := 1) rfl ?_
          refine zp_const (pc := 59) hx hb (zd_X6_value (59, .iconst 1, 1, 0, []) (List.mem_of_getElem? (i := 34) rfl)) rfl rfl ?_
          refine zp_icmp (pc := 60) (tgt := 69) hx hb (zd_X6_value (60, .if_icmp .eq 9, 3, 0, []) (List.mem_of_getElem? (i := 35) rfl)) rfl (fun (hc383 : 7 = 1) => ?_) (fun (hc383 : ¬ (7 = 1)) => ?_)
          · exfalso
            omega
          · refine zp_load (pc := 63) hx hb (zd_X6_value (63, .iload 6, 2, 0, []) (List.mem_of_getElem? (i := 36) rfl)) rfl (j := 1) rfl ?_
            refine zp_const (pc := 65) hx hb (zd_X6_value (65, .iconst 2, 1, 0, []) (List.mem_of_getElem? (i := 37) rfl)) rfl rfl ?_
            refine zp_icmp (pc := 66) (tgt := 123) hx hb (zd_X6_value (66, .if_icmp .ne 57, 3, 0, []) (List.mem_of_getElem? (i := 38) rfl)) rfl (fun (hc384 : ¬ 7 = 2) => ?_) (fun (hc384 : ¬ (¬ 7 = 2)) => ?_)
            · refine zp_load (pc := 123) hx hb (zd_X6_value (123, .iload 4, 2, 0, []) (List.mem_of_getElem? (i := 67) rfl)) rfl (j := 2) rfl ?_
              refine zp_const (pc := 125) hx hb (zd_X6_value (125, .iconst 1, 1, 0, []) (List.mem_of_getElem? (i := 68) rfl)) rfl rfl ?_
              refine zp_icmp (pc := 126) (tgt := 133) hx hb (zd_X6_value (126, .if_icmp .ge 7, 3, 0, []) (List.mem_of_getElem? (i := 69) rfl)) rfl (fun (hc385 : 1 ≤ ((d : Int) + 2)) => ?_) (fun (hc385 : ¬ (1 ≤ ((d : Int) + 2))) => ?_)
              · refine zp_load (pc := 133) hx hb (zd_X6_value (133, .aload_n 0, 1, 0, []) (List.mem_of_getElem? (i := 72) rfl)) rfl (j := 4) rfl ?_
                refine zp_getf (n := (st : Int)) (pc := 134) hx hb hE hw (zd_X6_value (134, .getfield 15, 3, 0, []) (List.mem_of_getElem? (i := 73) rfl)) (j := 5) rfl rfl rfl hp hm.1 ?_
                refine zp_load (pc := 137) hx hb (zd_X6_value (137, .iload 4, 2, 0, []) (List.mem_of_getElem? (i := 74) rfl)) rfl (j := 2) rfl ?_
                refine zp_const (pc := 139) hx hb (zd_X6_value (139, .iconst 1, 1, 0, []) (List.mem_of_getElem? (i := 75) rfl)) rfl rfl ?_
                refine zp_sub (n := ((d : Int) + 1)) (pc := 140) hx hb (zd_X6_value (140, .isub, 1, 0, []) (List.mem_of_getElem? (i := 76) rfl)) (by omega) (zp_r0 (by omega) (by omega)) ?_
                refine zp_lald (j := (d + 1)) (v := v2) (pc := 141) hx hb hw (zd_X6_value (141, .laload, 1, 0, []) (List.mem_of_getElem? (i := 77) rfl)) (show zp_ia 2 28 = some (64, 1, 0, (-9223372036854775808), 9223372036854775807) from rfl) qst (by omega) (by omega) e2 ?_
                refine zp_store (L' := [(8, 1, v2), (7, 0, (C (b + 1))), (6, 0, 7), (4, 0, ((d : Int) + 2)), (5, 0, (b : Int)), (0, 2, (a : Int)), (1, 2, (xt9 : Int)), (2, 0, (i2 : Int)), (3, 2, (wd9 : Int))]) (pc := 142) hx hb hnL (zd_X6_value (142, .lstore 8, 2, 0, []) (List.mem_of_getElem? (i := 78) rfl)) rfl rfl rfl ?_
                refine zp_load (pc := 144) hx hb (zd_X6_value (144, .iload 6, 2, 0, []) (List.mem_of_getElem? (i := 79) rfl)) rfl (j := 2) rfl ?_
                refine zp_if (pc := 146) (tgt := 152) hx hb (zd_X6_value (146, .ifCond .ne 6, 3, 0, []) (List.mem_of_getElem? (i := 80) rfl)) rfl (fun (hc387 : ¬ 7 = 0) => ?_) (fun (hc387 : ¬ (¬ 7 = 0)) => ?_)
                · refine zp_load (pc := 152) hx hb (zd_X6_value (152, .iload 6, 2, 0, []) (List.mem_of_getElem? (i := 83) rfl)) rfl (j := 2) rfl ?_
                  refine zp_const (pc := 154) hx hb (zd_X6_value (154, .iconst 3, 1, 0, []) (List.mem_of_getElem? (i := 84) rfl)) rfl rfl ?_
                  refine zp_icmp (pc := 155) (tgt := 174) hx hb (zd_X6_value (155, .if_icmp .ne 19, 3, 0, []) (List.mem_of_getElem? (i := 85) rfl)) rfl (fun (hc388 : ¬ 7 = 3) => ?_) (fun (hc388 : ¬ (¬ 7 = 3)) => ?_)
                  · refine zp_load (pc := 174) hx hb (zd_X6_value (174, .iload 6, 2, 0, []) (List.mem_of_getElem? (i := 96) rfl)) rfl (j := 2) rfl ?_
                    refine zp_const (pc := 176) hx hb (zd_X6_value (176, .iconst 4, 1, 0, []) (List.mem_of_getElem? (i := 97) rfl)) rfl rfl ?_
                    refine zp_icmp (pc := 177) (tgt := 186) hx hb (zd_X6_value (177, .if_icmp .eq 9, 3, 0, []) (List.mem_of_getElem? (i := 98) rfl)) rfl (fun (hc389 : 7 = 4) => ?_) (fun (hc389 : ¬ (7 = 4)) => ?_)
                    · exfalso
                      omega
                    · refine zp_load (pc := 180) hx hb (zd_X6_value (180, .iload 6, 2, 0, []) (List.mem_of_getElem? (i := 99) rfl)) rfl (j := 2) rfl ?_
                      refine zp_const (pc := 182) hx hb (zd_X6_value (182, .iconst 5, 1, 0, []) (List.mem_of_getElem? (i := 100) rfl)) rfl rfl ?_
                      refine zp_icmp (pc := 183) (tgt := 236) hx hb (zd_X6_value (183, .if_icmp .ne 53, 3, 0, []) (List.mem_of_getElem? (i := 101) rfl)) rfl (fun (hc390 : ¬ 7 = 5) => ?_) (fun (hc390 : ¬ (¬ 7 = 5)) => ?_)
                      · refine zp_load (pc := 236) hx hb (zd_X6_value (236, .iload 4, 2, 0, []) (List.mem_of_getElem? (i := 128) rfl)) rfl (j := 3) rfl ?_
                        refine zp_const (pc := 238) hx hb (zd_X6_value (238, .iconst 2, 1, 0, []) (List.mem_of_getElem? (i := 129) rfl)) rfl rfl ?_
                        refine zp_icmp (pc := 239) (tgt := 246) hx hb (zd_X6_value (239, .if_icmp .ge 7, 3, 0, []) (List.mem_of_getElem? (i := 130) rfl)) rfl (fun (hc391 : 2 ≤ ((d : Int) + 2)) => ?_) (fun (hc391 : ¬ (2 ≤ ((d : Int) + 2))) => ?_)
                        · refine zp_iinc (L' := [(4, 0, ((d : Int) + 1)), (8, 1, v2), (7, 0, (C (b + 1))), (6, 0, 7), (5, 0, (b : Int)), (0, 2, (a : Int)), (1, 2, (xt9 : Int)), (2, 0, (i2 : Int)), (3, 2, (wd9 : Int))]) (n := ((d : Int) + 1)) (pc := 246) hx hb hnL (zd_X6_value (246, .iinc 4 (-1), 3, 0, []) (List.mem_of_getElem? (i := 133) rfl)) (j := 3) rfl (by omega) (zp_r0 (by omega) (by omega)) rfl rfl ?_
                          refine zp_load (pc := 249) hx hb (zd_X6_value (249, .aload_n 0, 1, 0, []) (List.mem_of_getElem? (i := 134) rfl)) rfl (j := 5) rfl ?_
                          refine zp_getf (n := (st : Int)) (pc := 250) hx hb hE hw (zd_X6_value (250, .getfield 15, 3, 0, []) (List.mem_of_getElem? (i := 135) rfl)) (j := 5) rfl rfl rfl hp hm.1 ?_
                          refine zp_load (pc := 253) hx hb (zd_X6_value (253, .iload 4, 2, 0, []) (List.mem_of_getElem? (i := 136) rfl)) rfl (j := 0) rfl ?_
                          refine zp_const (pc := 255) hx hb (zd_X6_value (255, .iconst 1, 1, 0, []) (List.mem_of_getElem? (i := 137) rfl)) rfl rfl ?_
                          refine zp_sub (n := (d : Int)) (pc := 256) hx hb (zd_X6_value (256, .isub, 1, 0, []) (List.mem_of_getElem? (i := 138) rfl)) (by omega) (zp_r0 (by omega) (by omega)) ?_
                          refine zp_lald (j := d) (v := v1) (pc := 257) hx hb hw (zd_X6_value (257, .laload, 1, 0, []) (List.mem_of_getElem? (i := 139) rfl)) (show zp_ia 2 28 = some (64, 1, 0, (-9223372036854775808), 9223372036854775807) from rfl) qst (by omega) (by omega) e1 ?_
                          refine zp_store (L' := [(10, 1, v1), (4, 0, ((d : Int) + 1)), (8, 1, v2), (7, 0, (C (b + 1))), (6, 0, 7), (5, 0, (b : Int)), (0, 2, (a : Int)), (1, 2, (xt9 : Int)), (2, 0, (i2 : Int)), (3, 2, (wd9 : Int))]) (pc := 258) hx hb hnL (zd_X6_value (258, .lstore 10, 2, 0, []) (List.mem_of_getElem? (i := 140) rfl)) rfl rfl rfl ?_
                          refine zp_load (pc := 260) hx hb (zd_X6_value (260, .iload 6, 2, 0, []) (List.mem_of_getElem? (i := 141) rfl)) rfl (j := 4) rfl ?_
                          refine zp_tin (tgt := 314) (off := 52) (pc := 262) hx hb (zd_X6_value (262, .tableswitch 154 6 12 #[42, 52, 62, 72, 95, 118, 136], 42, 0, []) (List.mem_of_getElem? (i := 142) rfl)) (by decide) (by decide) (by decide) rfl ?_
                          refine zp_load (pc := 314) hx hb (zd_X6_value (314, .lload 10, 2, 0, []) (List.mem_of_getElem? (i := 148) rfl)) rfl (j := 0) rfl ?_
                          refine zp_load (pc := 316) hx hb (zd_X6_value (316, .lload 8, 2, 0, []) (List.mem_of_getElem? (i := 149) rfl)) rfl (j := 2) rfl ?_
                          refine zp_lsubx (n := (v1 - v2)) (pc := 318) hx hb (zd_X6_value (318, .lsub, 1, 0, []) (List.mem_of_getElem? (i := 150) rfl)) rfl (zp_r1 (by omega) (by omega)) ?_
                          refine zp_store (L' := [(12, 1, (v1 - v2)), (10, 1, v1), (4, 0, ((d : Int) + 1)), (8, 1, v2), (7, 0, (C (b + 1))), (6, 0, 7), (5, 0, (b : Int)), (0, 2, (a : Int)), (1, 2, (xt9 : Int)), (2, 0, (i2 : Int)), (3, 2, (wd9 : Int))]) (pc := 319) hx hb hnL (zd_X6_value (319, .lstore 12, 2, 0, []) (List.mem_of_getElem? (i := 151) rfl)) rfl rfl rfl ?_
                          refine zp_goto (tgt := 431) (pc := 321) hx hb (zd_X6_value (321, .goto 110, 3, 0, []) (List.mem_of_getElem? (i := 152) rfl)) rfl ?_
                          refine zp_load (pc := 431) hx hb (zd_X6_value (431, .lload 12, 2, 0, []) (List.mem_of_getElem? (i := 206) rfl)) rfl (j := 0) rfl ?_
                          refine zp_ldc2 (pc := 433) hx hb hE (zd_X6_value (433, .ldc2_w 89, 3, 0, []) (List.mem_of_getElem? (i := 207) rfl)) (j := 13) rfl ?_
                          refine zp_lcmp (pc := 436) (tgt := 449) hx hb (zd_X6_value (436, .lcmp, 1, 0, []) (List.mem_of_getElem? (i := 208) rfl)) (zd_X6_value (437, .ifCond .gt 12, 3, 0, []) (List.mem_of_getElem? (i := 209) rfl)) rfl (fun (hc393 : 1000000000 < (v1 - v2)) => ?_) (fun (hc393 : ¬ (1000000000 < (v1 - v2))) => ?_)
                          · refine zp_ldc2 (pc := 449) hx hb hE (zd_X6_value (449, .ldc2_w 53, 3, 0, []) (List.mem_of_getElem? (i := 214) rfl)) (j := 12) rfl ?_
                            have hz : x en = none := kb (zg_bnn (fun h => absurd h.1 (by decide)) (show (v1 - v2) = yd_v 21 v1 v2 from rfl) (by omega))
                            refine zp_lret (pc := 452) (n := (-9000000000)) hx hb hE hQ hU5 rfl (by decide) (zd_X6_value (452, .lreturn, 1, 0, []) (List.mem_of_getElem? (i := 215) rfl)) (j := 0) rfl (zp_o1 (by first | assumption | exact zp_r1 (by omega) (by omega))) ?_
                            rw [hps]
                            exact ⟨rfl, fun v hv => (by rw [hz] at hv; cases hv), fun _ => rfl⟩
                          · refine zp_load (pc := 440) hx hb (zd_X6_value (440, .lload 12, 2, 0, []) (List.mem_of_getElem? (i := 210) rfl)) rfl (j := 0) rfl ?_
                            refine zp_ldc2 (pc := 442) hx hb hE (zd_X6_value (442, .ldc2_w 91, 3, 0, []) (List.mem_of_getElem? (i := 211) rfl)) (j := 14) rfl ?_
                            refine zp_lcmp (pc := 445) (tgt := 453) hx hb (zd_X6_value (445, .lcmp, 1, 0, []) (List.mem_of_getElem? (i := 212) rfl)) (zd_X6_value (446, .ifCond .ge 7, 3, 0, []) (List.mem_of_getElem? (i := 213) rfl)) rfl (fun (hc394 : (-1000000000) ≤ (v1 - v2)) => ?_) (fun (hc394 : ¬ ((-1000000000) ≤ (v1 - v2))) => ?_)
                            · refine zp_load (pc := 453) hx hb (zd_X6_value (453, .aload_n 0, 1, 0, []) (List.mem_of_getElem? (i := 216) rfl)) rfl (j := 7) rfl ?_
                              refine zp_getf (n := (st : Int)) (pc := 454) hx hb hE hw (zd_X6_value (454, .getfield 15, 3, 0, []) (List.mem_of_getElem? (i := 217) rfl)) (j := 5) rfl rfl rfl hp hm.1 ?_
                              refine zp_load (pc := 457) hx hb (zd_X6_value (457, .iload 4, 2, 0, []) (List.mem_of_getElem? (i := 218) rfl)) rfl (j := 2) rfl ?_
                              refine zp_const (pc := 459) hx hb (zd_X6_value (459, .iconst 1, 1, 0, []) (List.mem_of_getElem? (i := 219) rfl)) rfl rfl ?_
                              refine zp_sub (n := (d : Int)) (pc := 460) hx hb (zd_X6_value (460, .isub, 1, 0, []) (List.mem_of_getElem? (i := 220) rfl)) (by omega) (zp_r0 (by omega) (by omega)) ?_
                              refine zp_load (pc := 461) hx hb (zd_X6_value (461, .lload 12, 2, 0, []) (List.mem_of_getElem? (i := 221) rfl)) rfl (j := 0) rfl ?_
                              refine zp_last (j := d) (pc := 463) hx hb hw heff (zd_X6_value (463, .lastore, 1, 0, []) (List.mem_of_getElem? (i := 222) rfl)) (show zp_ia 2 28 = some (64, 1, 0, (-9223372036854775808), 9223372036854775807) from rfl) qst (by omega) (by omega) rfl ?_
                              refine zp_iinc (L' := [(5, 0, ((b : Int) + 2)), (12, 1, (v1 - v2)), (10, 1, v1), (4, 0, ((d : Int) + 1)), (8, 1, v2), (7, 0, (C (b + 1))), (6, 0, 7), (0, 2, (a : Int)), (1, 2, (xt9 : Int)), (2, 0, (i2 : Int)), (3, 2, (wd9 : Int))]) (n := ((b : Int) + 2)) (pc := 464) hx hb hnL (zd_X6_value (464, .iinc 5 2, 3, 0, []) (List.mem_of_getElem? (i := 223) rfl)) (j := 6) rfl (by omega) (zp_r0 (by omega) (by omega)) rfl rfl ?_
                              refine zp_goto (tgt := 13) (pc := 467) hx hb (zd_X6_value (467, .goto (-454), 3, 0, []) (List.mem_of_getElem? (i := 224) rfl)) rfl ?_
                              refine zp_drop (L' := [(4, 0, ((d : Int) + 1)), (5, 0, ((b : Int) + 2)), (0, 2, (a : Int)), (1, 2, (xt9 : Int)), (2, 0, (i2 : Int)), (3, 2, (wd9 : Int))]) (by simp) ?_
                              exact kk (v1 - v2) _ (zg_bns (fun h => absurd h.1 (by decide)) (show (v1 - v2) = yd_v 21 v1 v2 from rfl) (by omega) (by omega)) (zgV_s hm n1 n2 n3 n4) (fun j hj => zp_set_ne (Or.inr (by omega))) zp_set_self
                            · refine zp_ldc2 (pc := 449) hx hb hE (zd_X6_value (449, .ldc2_w 53, 3, 0, []) (List.mem_of_getElem? (i := 214) rfl)) (j := 12) rfl ?_
                              have hz : x en = none := kb (zg_bnn (fun h => absurd h.1 (by decide)) (show (v1 - v2) = yd_v 21 v1 v2 from rfl) (by omega))
                              refine zp_lret (pc := 452) (n := (-9000000000)) hx hb hE hQ hU5 rfl (by decide) (zd_X6_value (452, .lreturn, 1, 0, []) (List.mem_of_getElem? (i := 215) rfl)) (j := 0) rfl (zp_o1 (by first | assumption | exact zp_r1 (by omega) (by omega))) ?_
                              rw [hps]
                              exact ⟨rfl, fun v hv => (by rw [hz] at hv; cases hv), fun _ => rfl⟩
                        · exfalso
                          omega
                      · exfalso
                        omega
                  · exfalso
                    omega
                · exfalso
                  omega
              · exfalso
                omega
            · exfalso
              omega
  have step_8 : ∀ (b d : Nat) (v1 v2 : Int) (G : Nat → Nat → Int), b < e9 → d + 2 < 64 → zgV a xt9 cd st wd9 N C Wd G → C b = 8 → G st (2000 + d) = v1 → G st (2000 + (d + 1)) = v2 → -2147483648 ≤ v1 ∧ v1 ≤ 2147483648 → -2147483648 ≤ v2 ∧ v2 ≤ 2147483648 → (∀ (v : Int) (G' : Nat → Nat → Int), yd_bn 22 v1 v2 = some v → zgV a xt9 cd st wd9 N C Wd G' → (∀ j, j < d → G' st (2000 + j) = G st (2000 + j)) → G' st (2000 + d) = v → zp_J p l e R s m args below meth c Q w u [] 13 [(4, 0, ((d + 1 : Nat) : Int)), (5, 0, ((b + 2 : Nat) : Int)), (0, 2, (a : Int)), (1, 2, (xt9 : Int)), (2, 0, (i2 : Int)), (3, 2, (wd9 : Int))] [] u.1 G') → (yd_bn 22 v1 v2 = none → x en = none) → zp_J p l e R s m args below meth c Q w u [] 13 [(4, 0, ((d + 2 : Nat) : Int)), (5, 0, ((b : Nat) : Int)), (0, 2, (a : Int)), (1, 2, (xt9 : Int)), (2, 0, (i2 : Int)), (3, 2, (wd9 : Int))] [] u.1 G := by
    clear step_l1 step_l2 exitv step_nt step_b4 step_b5 step_6 step_7
    intro b d v1 v2 G hb2 hd hm o1 e1 e2 bd1 bd2 kk kb
    have ho1 : G cd (2000 + b) = 8 := (hm.2.2.2.1 b).trans o1
    refine zp_drop (L' := [(4, 0, ((d : Int) + 2)), (5, 0, (b : Int)), (0, 2, (a : Int)), (1, 2, (xt9 : Int)), (2, 0, (i2 : Int)), (3, 2, (wd9 : Int))]) (by simp <;> omega) ?_
    have h99 : zk_rg 1 (-9000000000) := ⟨by decide, by decide⟩
    have hl13 := hm.2.2.1
    refine zp_load (pc := 13) hx hb (zd_X6_value (13, .iload 5, 2, 0, []) (List.mem_of_getElem? (i := 9) rfl)) rfl (j := 1) rfl ?_
    refine zp_if (pc := 15) (tgt := 470) hx hb (zd_X6_value (15, .ifCond .lt 455, 3, 0, []) (List.mem_of_getElem? (i := 10) rfl)) rfl (fun (hc395 : (b : Int) < 0) => ?_) (fun (hc395 : ¬ ((b : Int) < 0)) => ?_)
    · exfalso
      omega
    · refine zp_load (pc := 18) hx hb (zd_X6_value (18, .iload 5, 2, 0, []) (List.mem_of_getElem? (i := 11) rfl)) rfl (j := 1) rfl ?_
      refine zp_const (pc := 20) hx hb (zd_X6_value (20, .iconst 1, 1, 0, []) (List.mem_of_getElem? (i := 12) rfl)) rfl rfl ?_
      refine zp_add (n := ((b : Int) + 1)) (pc := 21) hx hb (zd_X6_value (21, .iadd, 1, 0, []) (List.mem_of_getElem? (i := 13) rfl)) (by omega) (zp_r0 (by omega) (by omega)) ?_
      refine zp_load (pc := 22) hx hb (zd_X6_value (22, .aload_n 1, 1, 0, []) (List.mem_of_getElem? (i := 14) rfl)) rfl (j := 3) rfl ?_
      refine zp_getf (n := (cd : Int)) (pc := 23) hx hb hE hw (zd_X6_value (23, .getfield 86, 3, 0, []) (List.mem_of_getElem? (i := 15) rfl)) (j := 10) rfl rfl rfl qxt hm.2.1 ?_
      refine zp_alenN (N := N) (pc := 26) hx hb hw (zd_X6_value (26, .arraylength, 1, 0, []) (List.mem_of_getElem? (i := 16) rfl)) qcd ⟨_, rfl, by decide, by decide⟩ hm.2.2.1 ?_
      refine zp_icmp (pc := 27) (tgt := 470) hx hb (zd_X6_value (27, .if_icmp .ge 443, 3, 0, []) (List.mem_of_getElem? (i := 17) rfl)) rfl (fun (hc396 : (N : Int) ≤ ((b : Int) + 1)) => ?_) (fun (hc396 : ¬ ((N : Int) ≤ ((b : Int) + 1))) => ?_)
      · exfalso
        omega
      · refine zp_load (pc := 30) hx hb (zd_X6_value (30, .iload 4, 2, 0, []) (List.mem_of_getElem? (i := 18) rfl)) rfl (j := 0) rfl ?_
        refine zp_const (pc := 32) hx hb (zd_X6_value (32, .bipush 64, 2, 0, []) (List.mem_of_getElem? (i := 19) rfl)) rfl rfl ?_
        refine zp_icmp (pc := 34) (tgt := 470) hx hb (zd_X6_value (34, .if_icmp .ge 436, 3, 0, []) (List.mem_of_getElem? (i := 20) rfl)) rfl (fun (hc397 : 64 ≤ ((d : Int) + 2)) => ?_) (fun (hc397 : ¬ (64 ≤ ((d : Int) + 2))) => ?_)
        · exfalso
          omega
        · refine zp_load (pc := 37) hx hb (zd_X6_value (37, .aload_n 1, 1, 0, []) (List.mem_of_getElem? (i := 21) rfl)) rfl (j := 3) rfl ?_
          refine zp_getf (n := (cd : Int)) (pc := 38) hx hb hE hw (zd_X6_value (38, .getfield 86, 3, 0, []) (List.mem_of_getElem? (i := 22) rfl)) (j := 10) rfl rfl rfl qxt hm.2.1 ?_
          refine zp_load (pc := 41) hx hb (zd_X6_value (41, .iload 5, 2, 0, []) (List.mem_of_getElem? (i := 23) rfl)) rfl (j := 1) rfl ?_
          refine zp_ialdN (j := b) (v := 8) (N := N) (pc := 43) hx hb hw (zd_X6_value (43, .iaload, 1, 0, []) (List.mem_of_getElem? (i := 24) rfl)) (show zp_ia 1 35 = some (872, 0, 0, (-1000000), 1000000) from rfl) ⟨_, rfl, by decide⟩ hm.2.2.1 qcd (by omega) (by omega) ho1 (fun hk398 => ?_)
          have hk398b := zp_int hk398
          refine zp_store (L' := [(6, 0, 8), (4, 0, ((d : Int) + 2)), (5, 0, (b : Int)), (0, 2, (a : Int)), (1, 2, (xt9 : Int)), (2, 0, (i2 : Int)), (3, 2, (wd9 : Int))]) (pc := 44) hx hb hnL (zd_X6_value (44, .istore 6, 2, 0, []) (List.mem_of_getElem? (i := 25) rfl)) rfl rfl rfl ?_
          refine zp_load (pc := 46) hx hb (zd_X6_value (46, .aload_n 1, 1, 0, []) (List.mem_of_getElem? (i := 26) rfl)) rfl (j := 4) rfl ?_
          refine zp_getf (n := (cd : Int)) (pc := 47) hx hb hE hw (zd_X6_value (47, .getfield 86, 3, 0, []) (List.mem_of_getElem? (i := 27) rfl)) (j := 10) rfl rfl rfl qxt hm.2.1 ?_
          refine zp_load (pc := 50) hx hb (zd_X6_value (50, .iload 5, 2, 0, []) (List.mem_of_getElem? (i := 28) rfl)) rfl (j := 2) rfl ?_
          refine zp_const (pc := 52) hx hb (zd_X6_value (52, .iconst 1, 1, 0, []) (List.mem_of_getElem? (i := 29) rfl)) rfl rfl ?_
          refine zp_add (n := ((b : Int) + 1)) (pc := 53) hx hb (zd_X6_value (53, .iadd, 1, 0, []) (List.mem_of_getElem? (i := 30) rfl)) (by omega) (zp_r0 (by omega) (by omega)) ?_
          refine zp_ialdN (j := (b + 1)) (v := (C (b + 1))) (N := N) (pc := 54) hx hb hw (zd_X6_value (54, .iaload, 1, 0, []) (List.mem_of_getElem? (i := 31) rfl)) (show zp_ia 1 35 = some (872, 0, 0, (-1000000), 1000000) from rfl) ⟨_, rfl, by decide⟩ hm.2.2.1 qcd (by omega) (by omega) (hm.2.2.2.1 (b + 1)) (fun hk399 => ?_)
          have hk399b := zp_int hk399
          refine zp_store (L' := [(7, 0, (C (b + 1))), (6, 0, 8), (4, 0, ((d : Int) + 2)), (5, 0, (b : Int)), (0, 2, (a : Int)), (1, 2, (xt9 : Int)), (2, 0, (i2 : Int)), (3, 2, (wd9 : Int))]) (pc := 55) hx hb hnL (zd_X6_value (55, .istore 7, 2, 0, []) (List.mem_of_getElem? (i := 32) rfl)) rfl rfl rfl ?_
          refine zp_load (pc := 57) hx hb (zd_X6_value (57, .iload 6, 2, 0, []) (List.mem_of_getElem? (i := 33) rfl)) rfl (j := 1) rfl ?_
          refine zp_const (pc := 59) hx hb (zd_X6_value (59, .iconst 1, 1, 0, []) (List.mem_of_getElem? (i := 34) rfl)) rfl rfl ?_
          refine zp_icmp (pc := 60) (tgt := 69) hx hb (zd_X6_value (60, .if_icmp .eq 9, 3, 0, []) (List.mem_of_getElem? (i := 35) rfl)) rfl (fun (hc400 : 8 = 1) => ?_) (fun (hc400 : ¬ (8 = 1)) => ?_)
          · exfalso
            omega
          · refine zp_load (pc := 63) hx hb (zd_X6_value (63, .iload 6, 2, 0, []) (List.mem_of_getElem? (i := 36) rfl)) rfl (j := 1) rfl ?_
            refine zp_const (pc := 65) hx hb (zd_X6_value (65, .iconst 2, 1, 0, []) (List.mem_of_getElem? (i := 37) rfl)) rfl rfl ?_
            refine zp_icmp (pc := 66) (tgt := 123) hx hb (zd_X6_value (66, .if_icmp .ne 57, 3, 0, []) (List.mem_of_getElem? (i := 38) rfl)) rfl (fun (hc401 : ¬ 8 = 2) => ?_) (fun (hc401 : ¬ (¬ 8 = 2)) => ?_)
            · refine zp_load (pc := 123) hx hb (zd_X6_value (123, .iload 4, 2, 0, []) (List.mem_of_getElem? (i := 67) rfl)) rfl (j := 2) rfl ?_
              refine zp_const (pc := 125) hx hb (zd_X6_value (125, .iconst 1, 1, 0, []) (List.mem_of_getElem? (i := 68) rfl)) rfl rfl ?_
              refine zp_icmp (pc := 126) (tgt := 133) hx hb (zd_X6_value (126, .if_icmp .ge 7, 3, 0, []) (List.mem_of_getElem? (i := 69) rfl)) rfl (fun (hc402 : 1 ≤ ((d : Int) + 2)) => ?_) (fun (hc402 : ¬ (1 ≤ ((d : Int) + 2))) => ?_)
              · refine zp_load (pc := 133) hx hb (zd_X6_value (133, .aload_n 0, 1, 0, []) (List.mem_of_getElem? (i := 72) rfl)) rfl (j := 4) rfl ?_
                refine zp_getf (n := (st : Int)) (pc := 134) hx hb hE hw (zd_X6_value (134, .getfield 15, 3, 0, []) (List.mem_of_getElem? (i := 73) rfl)) (j := 5) rfl rfl rfl hp hm.1 ?_
                refine zp_load (pc := 137) hx hb (zd_X6_value (137, .iload 4, 2, 0, []) (List.mem_of_getElem? (i := 74) rfl)) rfl (j := 2) rfl ?_
                refine zp_const (pc := 139) hx hb (zd_X6_value (139, .iconst 1, 1, 0, []) (List.mem_of_getElem? (i := 75) rfl)) rfl rfl ?_
                refine zp_sub (n := ((d : Int) + 1)) (pc := 140) hx hb (zd_X6_value (140, .isub, 1, 0, []) (List.mem_of_getElem? (i := 76) rfl)) (by omega) (zp_r0 (by omega) (by omega)) ?_
                refine zp_lald (j := (d + 1)) (v := v2) (pc := 141) hx hb hw (zd_X6_value (141, .laload, 1, 0, []) (List.mem_of_getElem? (i := 77) rfl)) (show zp_ia 2 28 = some (64, 1, 0, (-9223372036854775808), 9223372036854775807) from rfl) qst (by omega) (by omega) e2 ?_
                refine zp_store (L' := [(8, 1, v2), (7, 0, (C (b + 1))), (6, 0, 8), (4, 0, ((d : Int) + 2)), (5, 0, (b : Int)), (0, 2, (a : Int)), (1, 2, (xt9 : Int)), (2, 0, (i2 : Int)), (3, 2, (wd9 : Int))]) (pc := 142) hx hb hnL (zd_X6_value (142, .lstore 8, 2, 0, []) (List.mem_of_getElem? (i := 78) rfl)) rfl rfl rfl ?_
                refine zp_load (pc := 144) hx hb (zd_X6_value (144, .iload 6, 2, 0, []) (List.mem_of_getElem? (i := 79) rfl)) rfl (j := 2) rfl ?_
                refine zp_if (pc := 146) (tgt := 152) hx hb (zd_X6_value (146, .ifCond .ne 6, 3, 0, []) (List.mem_of_getElem? (i := 80) rfl)) rfl (fun (hc404 : ¬ 8 = 0) => ?_) (fun (hc404 : ¬ (¬ 8 = 0)) => ?_)
                · refine zp_load (pc := 152) hx hb (zd_X6_value (152, .iload 6, 2, 0, []) (List.mem_of_getElem? (i := 83) rfl)) rfl (j := 2) rfl ?_
                  refine zp_const (pc := 154) hx hb (zd_X6_value (154, .iconst 3, 1, 0, []) (List.mem_of_getElem? (i := 84) rfl)) rfl rfl ?_
                  refine zp_icmp (pc := 155) (tgt := 174) hx hb (zd_X6_value (155, .if_icmp .ne 19, 3, 0, []) (List.mem_of_getElem? (i := 85) rfl)) rfl (fun (hc405 : ¬ 8 = 3) => ?_) (fun (hc405 : ¬ (¬ 8 = 3)) => ?_)
                  · refine zp_load (pc := 174) hx hb (zd_X6_value (174, .iload 6, 2, 0, []) (List.mem_of_getElem? (i := 96) rfl)) rfl (j := 2) rfl ?_
                    refine zp_const (pc := 176) hx hb (zd_X6_value (176, .iconst 4, 1, 0, []) (List.mem_of_getElem? (i := 97) rfl)) rfl rfl ?_
                    refine zp_icmp (pc := 177) (tgt := 186) hx hb (zd_X6_value (177, .if_icmp .eq 9, 3, 0, []) (List.mem_of_getElem? (i := 98) rfl)) rfl (fun (hc406 : 8 = 4) => ?_) (fun (hc406 : ¬ (8 = 4)) => ?_)
                    · exfalso
                      omega
                    · refine zp_load (pc := 180) hx hb (zd_X6_value (180, .iload 6, 2, 0, []) (List.mem_of_getElem? (i := 99) rfl)) rfl (j := 2) rfl ?_
                      refine zp_const (pc := 182) hx hb (zd_X6_value (182, .iconst 5, 1, 0, []) (List.mem_of_getElem? (i := 100) rfl)) rfl rfl ?_
                      refine zp_icmp (pc := 183) (tgt := 236) hx hb (zd_X6_value (183, .if_icmp .ne 53, 3, 0, []) (List.mem_of_getElem? (i := 101) rfl)) rfl (fun (hc407 : ¬ 8 = 5) => ?_) (fun (hc407 : ¬ (¬ 8 = 5)) => ?_)
                      · refine zp_load (pc := 236) hx hb (zd_X6_value (236, .iload 4, 2, 0, []) (List.mem_of_getElem? (i := 128) rfl)) rfl (j := 3) rfl ?_
                        refine zp_const (pc := 238) hx hb (zd_X6_value (238, .iconst 2, 1, 0, []) (List.mem_of_getElem? (i := 129) rfl)) rfl rfl ?_
                        refine zp_icmp (pc := 239) (tgt := 246) hx hb (zd_X6_value (239, .if_icmp .ge 7, 3, 0, []) (List.mem_of_getElem? (i := 130) rfl)) rfl (fun (hc408 : 2 ≤ ((d : Int) + 2)) => ?_) (fun (hc408 : ¬ (2 ≤ ((d : Int) + 2))) => ?_)
                        · refine zp_iinc (L' := [(4, 0, ((d : Int) + 1)), (8, 1, v2), (7, 0, (C (b + 1))), (6, 0, 8), (5, 0, (b : Int)), (0, 2, (a : Int)), (1, 2, (xt9 : Int)), (2, 0, (i2 : Int)), (3, 2, (wd9 : Int))]) (n := ((d : Int) + 1)) (pc := 246) hx hb hnL (zd_X6_value (246, .iinc 4 (-1), 3, 0, []) (List.mem_of_getElem? (i := 133) rfl)) (j := 3) rfl (by omega) (zp_r0 (by omega) (by omega)) rfl rfl ?_
                          refine zp_load (pc := 249) hx hb (zd_X6_value (249, .aload_n 0, 1, 0, []) (List.mem_of_getElem? (i := 134) rfl)) rfl (j := 5) rfl ?_
                          refine zp_getf (n := (st : Int)) (pc := 250) hx hb hE hw (zd_X6_value (250, .getfield 15, 3, 0, []) (List.mem_of_getElem? (i := 135) rfl)) (j := 5) rfl rfl rfl hp hm.1 ?_
                          refine zp_load (pc := 253) hx hb (zd_X6_value (253, .iload 4, 2, 0, []) (List.mem_of_getElem? (i := 136) rfl)) rfl (j := 0) rfl ?_
                          refine zp_const (pc := 255) hx hb (zd_X6_value (255, .iconst 1, 1, 0, []) (List.mem_of_getElem? (i := 137) rfl)) rfl rfl ?_
                          refine zp_sub (n := (d : Int)) (pc := 256) hx hb (zd_X6_value (256, .isub, 1, 0, []) (List.mem_of_getElem? (i := 138) rfl)) (by omega) (zp_r0 (by omega) (by omega)) ?_
                          refine zp_lald (j := d) (v := v1) (pc := 257) hx hb hw (zd_X6_value (257, .laload, 1, 0, []) (List.mem_of_getElem? (i := 139) rfl)) (show zp_ia 2 28 = some (64, 1, 0, (-9223372036854775808), 9223372036854775807) from rfl) qst (by omega) (by omega) e1 ?_
                          refine zp_store (L' := [(10, 1, v1), (4, 0, ((d : Int) + 1)), (8, 1, v2), (7, 0, (C (b + 1))), (6, 0, 8), (5, 0, (b : Int)), (0, 2, (a : Int)), (1, 2, (xt9 : Int)), (2, 0, (i2 : Int)), (3, 2, (wd9 : Int))]) (pc := 258) hx hb hnL (zd_X6_value (258, .lstore 10, 2, 0, []) (List.mem_of_getElem? (i := 140) rfl)) rfl rfl rfl ?_
                          refine zp_load (pc := 260) hx hb (zd_X6_value (260, .iload 6, 2, 0, []) (List.mem_of_getElem? (i := 141) rfl)) rfl (j := 4) rfl ?_
                          refine zp_tin (tgt := 324) (off := 62) (pc := 262) hx hb (zd_X6_value (262, .tableswitch 154 6 12 #[42, 52, 62, 72, 95, 118, 136], 42, 0, []) (List.mem_of_getElem? (i := 142) rfl)) (by decide) (by decide) (by decide) rfl ?_
                          refine zp_load (pc := 324) hx hb (zd_X6_value (324, .lload 10, 2, 0, []) (List.mem_of_getElem? (i := 153) rfl)) rfl (j := 0) rfl ?_
                          refine zp_load (pc := 326) hx hb (zd_X6_value (326, .lload 8, 2, 0, []) (List.mem_of_getElem? (i := 154) rfl)) rfl (j := 2) rfl ?_
                          refine zp_lmulx (n := (v1 * v2)) (pc := 328) hx hb (zd_X6_value (328, .lmul, 1, 0, []) (List.mem_of_getElem? (i := 155) rfl)) rfl (zg_mulr bd1.1 bd1.2 bd2.1 bd2.2) ?_
                          refine zp_store (L' := [(12, 1, (v1 * v2)), (10, 1, v1), (4, 0, ((d : Int) + 1)), (8, 1, v2), (7, 0, (C (b + 1))), (6, 0, 8), (5, 0, (b : Int)), (0, 2, (a : Int)), (1, 2, (xt9 : Int)), (2, 0, (i2 : Int)), (3, 2, (wd9 : Int))]) (pc := 329) hx hb hnL (zd_X6_value (329, .lstore 12, 2, 0, []) (List.mem_of_getElem? (i := 156) rfl)) rfl rfl rfl ?_
                          refine zp_goto (tgt := 431) (pc := 331) hx hb (zd_X6_value (331, .goto 100, 3, 0, []) (List.mem_of_getElem? (i := 157) rfl)) rfl ?_
                          have hrg9 := zg_mulr bd1.1 bd1.2 bd2.1 bd2.2
                          refine zp_load (pc := 431) hx hb (zd_X6_value (431, .lload 12, 2, 0, []) (List.mem_of_getElem? (i := 206) rfl)) rfl (j := 0) rfl ?_
                          refine zp_ldc2 (pc := 433) hx hb hE (zd_X6_value (433, .ldc2_w 89, 3, 0, []) (List.mem_of_getElem? (i := 207) rfl)) (j := 13) rfl ?_
                          refine zp_lcmp (pc := 436) (tgt := 449) hx hb (zd_X6_value (436, .lcmp, 1, 0, []) (List.mem_of_getElem? (i := 208) rfl)) (zd_X6_value (437, .ifCond .gt 12, 3, 0, []) (List.mem_of_getElem? (i := 209) rfl)) rfl (fun (hc410 : 1000000000 < (v1 * v2)) => ?_) (fun (hc410 : ¬ (1000000000 < (v1 * v2))) => ?_)
                          · refine zp_ldc2 (pc := 449) hx hb hE (zd_X6_value (449, .ldc2_w 53, 3, 0, []) (List.mem_of_getElem? (i := 214) rfl)) (j := 12) rfl ?_
                            have hz : x en = none := kb (zg_bnn (fun h => absurd h.1 (by decide)) (show (v1 * v2) = yd_v 22 v1 v2 from rfl) (by omega))
                            refine zp_lret (pc := 452) (n := (-9000000000)) hx hb hE hQ hU5 rfl (by decide) (zd_X6_value (452, .lreturn, 1, 0, []) (List.mem_of_getElem? (i := 215) rfl)) (j := 0) rfl (zp_o1 (by first | assumption | exact zp_r1 (by omega) (by omega))) ?_
                            rw [hps]
                            exact ⟨rfl, fun v hv => (by rw [hz] at hv; cases hv), fun _ => rfl⟩
                          · refine zp_load (pc := 440) hx hb (zd_X6_value (440, .lload 12, 2, 0, []) (List.mem_of_getElem? (i := 210) rfl)) rfl (j := 0) rfl ?_
                            refine zp_ldc2 (pc := 442) hx hb hE (zd_X6_value (442, .ldc2_w 91, 3, 0, []) (List.mem_of_getElem? (i := 211) rfl)) (j := 14) rfl ?_
                            refine zp_lcmp (pc := 445) (tgt := 453) hx hb (zd_X6_value (445, .lcmp, 1, 0, []) (List.mem_of_getElem? (i := 212) rfl)) (zd_X6_value (446, .ifCond .ge 7, 3, 0, []) (List.mem_of_getElem? (i := 213) rfl)) rfl (fun (hc411 : (-1000000000) ≤ (v1 * v2)) => ?_) (fun (hc411 : ¬ ((-1000000000) ≤ (v1 * v2))) => ?_)
                            · refine zp_load (pc := 453) hx hb (zd_X6_value (453, .aload_n 0, 1, 0, []) (List.mem_of_getElem? (i := 216) rfl)) rfl (j := 7) rfl ?_
                              refine zp_getf (n := (st : Int)) (pc := 454) hx hb hE hw (zd_X6_value (454, .getfield 15, 3, 0, []) (List.mem_of_getElem? (i := 217) rfl)) (j := 5) rfl rfl rfl hp hm.1 ?_
                              refine zp_load (pc := 457) hx hb (zd_X6_value (457, .iload 4, 2, 0, []) (List.mem_of_getElem? (i := 218) rfl)) rfl (j := 2) rfl ?_
                              refine zp_const (pc := 459) hx hb (zd_X6_value (459, .iconst 1, 1, 0, []) (List.mem_of_getElem? (i := 219) rfl)) rfl rfl ?_
                              refine zp_sub (n := (d : Int)) (pc := 460) hx hb (zd_X6_value (460, .isub, 1, 0, []) (List.mem_of_getElem? (i := 220) rfl)) (by omega) (zp_r0 (by omega) (by omega)) ?_
                              refine zp_load (pc := 461) hx hb (zd_X6_value (461, .lload 12, 2, 0, []) (List.mem_of_getElem? (i := 221) rfl)) rfl (j := 0) rfl ?_
                              refine zp_last (j := d) (pc := 463) hx hb hw heff (zd_X6_value (463, .lastore, 1, 0, []) (List.mem_of_getElem? (i := 222) rfl)) (show zp_ia 2 28 = some (64, 1, 0, (-9223372036854775808), 9223372036854775807) from rfl) qst (by omega) (by omega) rfl ?_
                              refine zp_iinc (L' := [(5, 0, ((b : Int) + 2)), (12, 1, (v1 * v2)), (10, 1, v1), (4, 0, ((d : Int) + 1)), (8, 1, v2), (7, 0, (C (b + 1))), (6, 0, 8), (0, 2, (a : Int)), (1, 2, (xt9 : Int)), (2, 0, (i2 : Int)), (3, 2, (wd9 : Int))]) (n := ((b : Int) + 2)) (pc := 464) hx hb hnL (zd_X6_value (464, .iinc 5 2, 3, 0, []) (List.mem_of_getElem? (i := 223) rfl)) (j := 6) rfl (by omega) (zp_r0 (by omega) (by omega)) rfl rfl ?_
                              refine zp_goto (tgt := 13) (pc := 467) hx hb (zd_X6_value (467, .goto (-454), 3, 0, []) (List.mem_of_getElem? (i := 224) rfl)) rfl ?_
                              refine zp_drop (L' := [(4, 0, ((d : Int) + 1)), (5, 0, ((b : Int) + 2)), (0, 2, (a : Int)), (1, 2, (xt9 : Int)), (2, 0, (i2 : Int)), (3, 2, (wd9 : Int))]) (by simp) ?_
                              exact kk (v1 * v2) _ (zg_bns (fun h => absurd h.1 (by decide)) (show (v1 * v2) = yd_v 22 v1 v2 from rfl) (by omega) (by omega)) (zgV_s hm n1 n2 n3 n4) (fun j hj => zp_set_ne (Or.inr (by omega))) zp_set_self
                            · refine zp_ldc2 (pc := 449) hx hb hE (zd_X6_value (449, .ldc2_w 53, 3, 0, []) (List.mem_of_getElem? (i := 214) rfl)) (j := 12) rfl ?_
                              have hz : x en = none := kb (zg_bnn (fun h => absurd h.1 (by decide)) (show (v1 * v2) = yd_v 22 v1 v2 from rfl) (by omega))
                              refine zp_lret (pc := 452) (n := (-9000000000)) hx hb hE hQ hU5 rfl (by decide) (zd_X6_value (452, .lreturn, 1, 0, []) (List.mem_of_getElem? (i := 215) rfl)) (j := 0) rfl (zp_o1 (by first | assumption | exact zp_r1 (by omega) (by omega))) ?_
                              rw [hps]
                              exact ⟨rfl, fun v hv => (by rw [hz] at hv; cases hv), fun _ => rfl⟩
                        · exfalso
                          omega
                      · exfalso
                        omega
                  · exfalso
                    omega
                · exfalso
                  omega
              · exfalso
                omega
            · exfalso
              omega
  have step_9 : ∀ (b d : Nat) (v1 v2 : Int) (G : Nat → Nat → Int), b < e9 → d + 2 < 64 → zgV a xt9 cd st wd9 N C Wd G → C b = 9 → G st (2000 + d) = v1 → G st (2000 + (d + 1)) = v2 → -2147483648 ≤ v1 ∧ v1 ≤ 2147483648 → -2147483648 ≤ v2 ∧ v2 ≤ 2147483648 → (∀ (v : Int) (G' : Nat → Nat → Int), yd_bn 23 v1 v2 = some v → zgV a xt9 cd st wd9 N C Wd G' → (∀ j, j < d → G' st (2000 + j) = G st (2000 + j)) → G' st (2000 + d) = v → zp_J p l e R s m args below meth c Q w u [] 13 [(4, 0, ((d + 1 : Nat) : Int)), (5, 0, ((b + 2 : Nat) : Int)), (0, 2, (a : Int)), (1, 2, (xt9 : Int)), (2, 0, (i2 : Int)), (3, 2, (wd9 : Int))] [] u.1 G') → (yd_bn 23 v1 v2 = none → x en = none) → zp_J p l e R s m args below meth c Q w u [] 13 [(4, 0, ((d + 2 : Nat) : Int)), (5, 0, ((b : Nat) : Int)), (0, 2, (a : Int)), (1, 2, (xt9 : Int)), (2, 0, (i2 : Int)), (3, 2, (wd9 : Int))] [] u.1 G := by
    clear step_l1 step_l2 exitv step_nt step_b4 step_b5 step_6 step_7 step_8
    intro b d v1 v2 G hb2 hd hm o1 e1 e2 bd1 bd2 kk kb
    have ho1 : G cd (2000 + b) = 9 := (hm.2.2.2.1 b).trans o1
    refine zp_drop (L' := [(4, 0, ((d : Int) + 2)), (5, 0, (b : Int)), (0, 2, (a : Int)), (1, 2, (xt9 : Int)), (2, 0, (i2 : Int)), (3, 2, (wd9 : Int))]) (by simp <;> omega) ?_
    have h99 : zk_rg 1 (-9000000000) := ⟨by decide, by decide⟩
    by_cases hn1 : v2 = 0
    · have hl13 := hm.2.2.1
      refine zp_load (pc := 13) hx hb (zd_X6_value (13, .iload 5, 2, 0, []) (List.mem_of_getElem? (i := 9) rfl)) rfl (j := 1) rfl ?_
      refine zp_if (pc := 15) (tgt := 470) hx hb (zd_X6_value (15, .ifCond .lt 455, 3, 0, []) (List.mem_of_getElem? (i := 10) rfl)) rfl (fun (hc412 : (b : Int) < 0) => ?_) (fun (hc412 : ¬ ((b : Int) < 0)) => ?_)
      · exfalso
        omega
      · refine zp_load (pc := 18) hx hb (zd_X6_value (18, .iload 5, 2, 0, []) (List.mem_of_getElem? (i := 11) rfl)) rfl (j := 1) rfl ?_
        refine zp_const (pc := 20) hx hb (zd_X6_value (20, .iconst 1, 1, 0, []) (List.mem_of_getElem? (i := 12) rfl)) rfl rfl ?_
        refine zp_add (n := ((b : Int) + 1)) (pc := 21) hx hb (zd_X6_value (21, .iadd, 1, 0, []) (List.mem_of_getElem? (i := 13) rfl)) (by omega) (zp_r0 (by omega) (by omega)) ?_
        refine zp_load (pc := 22) hx hb (zd_X6_value (22, .aload_n 1, 1, 0, []) (List.mem_of_getElem? (i := 14) rfl)) rfl (j := 3) rfl ?_
        refine zp_getf (n := (cd : Int)) (pc := 23) hx hb hE hw (zd_X6_value (23, .getfield 86, 3, 0, []) (List.mem_of_getElem? (i := 15) rfl)) (j := 10) rfl rfl rfl qxt hm.2.1 ?_
        refine zp_alenN (N := N) (pc := 26) hx hb hw (zd_X6_value (26, .arraylength, 1, 0, []) (List.mem_of_getElem? (i := 16) rfl)) qcd ⟨_, rfl, by decide, by decide⟩ hm.2.2.1 ?_
        refine zp_icmp (pc := 27) (tgt := 470) hx hb (zd_X6_value (27, .if_icmp .ge 443, 3, 0, []) (List.mem_of_getElem? (i := 17) rfl)) rfl (fun (hc413 : (N : Int) ≤ ((b : Int) + 1)) => ?_) (fun (hc413 : ¬ ((N : Int) ≤ ((b : Int) + 1))) => ?_)
        · exfalso
          omega
        · refine zp_load (pc := 30) hx hb (zd_X6_value (30, .iload 4, 2, 0, []) (List.mem_of_getElem? (i := 18) rfl)) rfl (j := 0) rfl ?_
          refine zp_const (pc := 32) hx hb (zd_X6_value (32, .bipush 64, 2, 0, []) (List.mem_of_getElem? (i := 19) rfl)) rfl rfl ?_
          refine zp_icmp (pc := 34) (tgt := 470) hx hb (zd_X6_value (34, .if_icmp .ge 436, 3, 0, []) (List.mem_of_getElem? (i := 20) rfl)) rfl (fun (hc414 : 64 ≤ ((d : Int) + 2)) => ?_) (fun (hc414 : ¬ (64 ≤ ((d : Int) + 2))) => ?_)
          · exfalso
            omega
          · refine zp_load (pc := 37) hx hb (zd_X6_value (37, .aload_n 1, 1, 0, []) (List.mem_of_getElem? (i := 21) rfl)) rfl (j := 3) rfl ?_
            refine zp_getf (n := (cd : Int)) (pc := 38) hx hb hE hw (zd_X6_value (38, .getfield 86, 3, 0, []) (List.mem_of_getElem? (i := 22) rfl)) (j := 10) rfl rfl rfl qxt hm.2.1 ?_
            refine zp_load (pc := 41) hx hb (zd_X6_value (41, .iload 5, 2, 0, []) (List.mem_of_getElem? (i := 23) rfl)) rfl (j := 1) rfl ?_
            refine zp_ialdN (j := b) (v := 9) (N := N) (pc := 43) hx hb hw (zd_X6_value (43, .iaload, 1, 0, []) (List.mem_of_getElem? (i := 24) rfl)) (show zp_ia 1 35 = some (872, 0, 0, (-1000000), 1000000) from rfl) ⟨_, rfl, by decide⟩ hm.2.2.1 qcd (by omega) (by omega) ho1 (fun hk415 => ?_)
            have hk415b := zp_int hk415
            refine zp_store (L' := [(6, 0, 9), (4, 0, ((d : Int) + 2)), (5, 0, (b : Int)), (0, 2, (a : Int)), (1, 2, (xt9 : Int)), (2, 0, (i2 : Int)), (3, 2, (wd9 : Int))]) (pc := 44) hx hb hnL (zd_X6_value (44, .istore 6, 2, 0, []) (List.mem_of_getElem? (i := 25) rfl)) rfl rfl rfl ?_
            refine zp_load (pc := 46) hx hb (zd_X6_value (46, .aload_n 1, 1, 0, []) (List.mem_of_getElem? (i := 26) rfl)) rfl (j := 4) rfl ?_
            refine zp_getf (n := (cd : Int)) (pc := 47) hx hb hE hw (zd_X6_value (47, .getfield 86, 3, 0, []) (List.mem_of_getElem? (i := 27) rfl)) (j := 10) rfl rfl rfl qxt hm.2.1 ?_
            refine zp_load (pc := 50) hx hb (zd_X6_value (50, .iload 5, 2, 0, []) (List.mem_of_getElem? (i := 28) rfl)) rfl (j := 2) rfl ?_
            refine zp_const (pc := 52) hx hb (zd_X6_value (52, .iconst 1, 1, 0, []) (List.mem_of_getElem? (i := 29) rfl)) rfl rfl ?_
            refine zp_add (n := ((b : Int) + 1)) (pc := 53) hx hb (zd_X6_value (53, .iadd, 1, 0, []) (List.mem_of_getElem? (i := 30) rfl)) (by omega) (zp_r0 (by omega) (by omega)) ?_
            refine zp_ialdN (j := (b + 1)) (v := (C (b + 1))) (N := N) (pc := 54) hx hb hw (zd_X6_value (54, .iaload, 1, 0, []) (List.mem_of_getElem? (i := 31) rfl)) (show zp_ia 1 35 = some (872, 0, 0, (-1000000), 1000000) from rfl) ⟨_, rfl, by decide⟩ hm.2.2.1 qcd (by omega) (by omega) (hm.2.2.2.1 (b + 1)) (fun hk416 => ?_)
            have hk416b := zp_int hk416
            refine zp_store (L' := [(7, 0, (C (b + 1))), (6, 0, 9), (4, 0, ((d : Int) + 2)), (5, 0, (b : Int)), (0, 2, (a : Int)), (1, 2, (xt9 : Int)), (2, 0, (i2 : Int)), (3, 2, (wd9 : Int))]) (pc := 55) hx hb hnL (zd_X6_value (55, .istore 7, 2, 0, []) (List.mem_of_getElem? (i := 32) rfl)) rfl rfl rfl ?_
            refine zp_load (pc := 57) hx hb (zd_X6_value (57, .iload 6, 2, 0, []) (List.mem_of_getElem? (i := 33) rfl)) rfl (j := 1) rfl ?_
            refine zp_const (pc := 59) hx hb (zd_X6_value (59, .iconst 1, 1, 0, []) (List.mem_of_getElem? (i := 34) rfl)) rfl rfl ?_
            refine zp_icmp (pc := 60) (tgt := 69) hx hb (zd_X6_value (60, .if_icmp .eq 9, 3, 0, []) (List.mem_of_getElem? (i := 35) rfl)) rfl (fun (hc417 : 9 = 1) => ?_) (fun (hc417 : ¬ (9 = 1)) => ?_)
            · exfalso
              omega
            · refine zp_load (pc := 63) hx hb (zd_X6_value (63, .iload 6, 2, 0, []) (List.mem_of_getElem? (i := 36) rfl)) rfl (j := 1) rfl ?_
              refine zp_const (pc := 65) hx hb (zd_X6_value (65, .iconst 2, 1, 0, []) (List.mem_of_getElem? (i := 37) rfl)) rfl rfl ?_
              refine zp_icmp (pc := 66) (tgt := 123) hx hb (zd_X6_value (66, .if_icmp .ne 57, 3, 0, []) (List.mem_of_getElem? (i := 38) rfl)) rfl (fun (hc418 : ¬ 9 = 2) => ?_) (fun (hc418 : ¬ (¬ 9 = 2)) => ?_)
              · refine zp_load (pc := 123) hx hb (zd_X6_value (123, .iload 4, 2, 0, []) (List.mem_of_getElem? (i := 67) rfl)) rfl (j := 2) rfl ?_
                refine zp_const (pc := 125) hx hb (zd_X6_value (125, .iconst 1, 1, 0, []) (List.mem_of_getElem? (i := 68) rfl)) rfl rfl ?_
                refine zp_icmp (pc := 126) (tgt := 133) hx hb (zd_X6_value (126, .if_icmp .ge 7, 3, 0, []) (List.mem_of_getElem? (i := 69) rfl)) rfl (fun (hc419 : 1 ≤ ((d : Int) + 2)) => ?_) (fun (hc419 : ¬ (1 ≤ ((d : Int) + 2))) => ?_)
                · refine zp_load (pc := 133) hx hb (zd_X6_value (133, .aload_n 0, 1, 0, []) (List.mem_of_getElem? (i := 72) rfl)) rfl (j := 4) rfl ?_
                  refine zp_getf (n := (st : Int)) (pc := 134) hx hb hE hw (zd_X6_value (134, .getfield 15, 3, 0, []) (List.mem_of_getElem? (i := 73) rfl)) (j := 5) rfl rfl rfl hp hm.1 ?_
                  refine zp_load (pc := 137) hx hb (zd_X6_value (137, .iload 4, 2, 0, []) (List.mem_of_getElem? (i := 74) rfl)) rfl (j := 2) rfl ?_
                  refine zp_const (pc := 139) hx hb (zd_X6_value (139, .iconst 1, 1, 0, []) (List.mem_of_getElem? (i := 75) rfl)) rfl rfl ?_
                  refine zp_sub (n := ((d : Int) + 1)) (pc := 140) hx hb (zd_X6_value (140, .isub, 1, 0, []) (List.mem_of_getElem? (i := 76) rfl)) (by omega) (zp_r0 (by omega) (by omega)) ?_
                  refine zp_lald (j := (d + 1)) (v := v2) (pc := 141) hx hb hw (zd_X6_value (141, .laload, 1, 0, []) (List.mem_of_getElem? (i := 77) rfl)) (show zp_ia 2 28 = some (64, 1, 0, (-9223372036854775808), 9223372036854775807) from rfl) qst (by omega) (by omega) e2 ?_
                  refine zp_store (L' := [(8, 1, v2), (7, 0, (C (b + 1))), (6, 0, 9), (4, 0, ((d : Int) + 2)), (5, 0, (b : Int)), (0, 2, (a : Int)), (1, 2, (xt9 : Int)), (2, 0, (i2 : Int)), (3, 2, (wd9 : Int))]) (pc := 142) hx hb hnL (zd_X6_value (142, .lstore 8, 2, 0, []) (List.mem_of_getElem? (i := 78) rfl)) rfl rfl rfl ?_
                  refine zp_load (pc := 144) hx hb (zd_X6_value (144, .iload 6, 2, 0, []) (List.mem_of_getElem? (i := 79) rfl)) rfl (j := 2) rfl ?_
                  refine zp_if (pc := 146) (tgt := 152) hx hb (zd_X6_value (146, .ifCond .ne 6, 3, 0, []) (List.mem_of_getElem? (i := 80) rfl)) rfl (fun (hc421 : ¬ 9 = 0) => ?_) (fun (hc421 : ¬ (¬ 9 = 0)) => ?_)
                  · refine zp_load (pc := 152) hx hb (zd_X6_value (152, .iload 6, 2, 0, []) (List.mem_of_getElem? (i := 83) rfl)) rfl (j := 2) rfl ?_
                    refine zp_const (pc := 154) hx hb (zd_X6_value (154, .iconst 3, 1, 0, []) (List.mem_of_getElem? (i := 84) rfl)) rfl rfl ?_
                    refine zp_icmp (pc := 155) (tgt := 174) hx hb (zd_X6_value (155, .if_icmp .ne 19, 3, 0, []) (List.mem_of_getElem? (i := 85) rfl)) rfl (fun (hc422 : ¬ 9 = 3) => ?_) (fun (hc422 : ¬ (¬ 9 = 3)) => ?_)
                    · refine zp_load (pc := 174) hx hb (zd_X6_value (174, .iload 6, 2, 0, []) (List.mem_of_getElem? (i := 96) rfl)) rfl (j := 2) rfl ?_
                      refine zp_const (pc := 176) hx hb (zd_X6_value (176, .iconst 4, 1, 0, []) (List.mem_of_getElem? (i := 97) rfl)) rfl rfl ?_
                      refine zp_icmp (pc := 177) (tgt := 186) hx hb (zd_X6_value (177, .if_icmp .eq 9, 3, 0, []) (List.mem_of_getElem? (i := 98) rfl)) rfl (fun (hc423 : 9 = 4) => ?_) (fun (hc423 : ¬ (9 = 4)) => ?_)
                      · exfalso
                        omega
                      · refine zp_load (pc := 180) hx hb (zd_X6_value (180, .iload 6, 2, 0, []) (List.mem_of_getElem? (i := 99) rfl)) rfl (j := 2) rfl ?_
                        refine zp_const (pc := 182) hx hb (zd_X6_value (182, .iconst 5, 1, 0, []) (List.mem_of_getElem? (i := 100) rfl)) rfl rfl ?_
                        refine zp_icmp (pc := 183) (tgt := 236) hx hb (zd_X6_value (183, .if_icmp .ne 53, 3, 0, []) (List.mem_of_getElem? (i := 101) rfl)) rfl (fun (hc424 : ¬ 9 = 5) => ?_) (fun (hc424 : ¬ (¬ 9 = 5)) => ?_)
                        · refine zp_load (pc := 236) hx hb (zd_X6_value (236, .iload 4, 2, 0, []) (List.mem_of_getElem? (i := 128) rfl)) rfl (j := 3) rfl ?_
                          refine zp_const (pc := 238) hx hb (zd_X6_value (238, .iconst 2, 1, 0, []) (List.mem_of_getElem? (i := 129) rfl)) rfl rfl ?_
                          refine zp_icmp (pc := 239) (tgt := 246) hx hb (zd_X6_value (239, .if_icmp .ge 7, 3, 0, []) (List.mem_of_getElem? (i := 130) rfl)) rfl (fun (hc425 : 2 ≤ ((d : Int) + 2)) => ?_) (fun (hc425 : ¬ (2 ≤ ((d : Int) + 2))) => ?_)
                          · refine zp_iinc (L' := [(4, 0, ((d : Int) + 1)), (8, 1, v2), (7, 0, (C (b + 1))), (6, 0, 9), (5, 0, (b : Int)), (0, 2, (a : Int)), (1, 2, (xt9 : Int)), (2, 0, (i2 : Int)), (3, 2, (wd9 : Int))]) (n := ((d : Int) + 1)) (pc := 246) hx hb hnL (zd_X6_value (246, .iinc 4 (-1), 3, 0, []) (List.mem_of_getElem? (i := 133) rfl)) (j := 3) rfl (by omega) (zp_r0 (by omega) (by omega)) rfl rfl ?_
                            refine zp_load (pc := 249) hx hb (zd_X6_value (249, .aload_n 0, 1, 0, []) (List.mem_of_getElem? (i := 134) rfl)) rfl (j := 5) rfl ?_
                            refine zp_getf (n := (st : Int)) (pc := 250) hx hb hE hw (zd_X6_value (250, .getfield 15, 3, 0, []) (List.mem_of_getElem? (i := 135) rfl)) (j := 5) rfl rfl rfl hp hm.1 ?_
                            refine zp_load (pc := 253) hx hb (zd_X6_value (253, .iload 4, 2, 0, []) (List.mem_of_getElem? (i := 136) rfl)) rfl (j := 0) rfl ?_
                            refine zp_const (pc := 255) hx hb (zd_X6_value (255, .iconst 1, 1, 0, []) (List.mem_of_getElem? (i := 137) rfl)) rfl rfl ?_
                            refine zp_sub (n := (d : Int)) (pc := 256) hx hb (zd_X6_value (256, .isub, 1, 0, []) (List.mem_of_getElem? (i := 138) rfl)) (by omega) (zp_r0 (by omega) (by omega)) ?_
                            refine zp_lald (j := d) (v := v1) (pc := 257) hx hb hw (zd_X6_value (257, .laload, 1, 0, []) (List.mem_of_getElem? (i := 139) rfl)) (show zp_ia 2 28 = some (64, 1, 0, (-9223372036854775808), 9223372036854775807) from rfl) qst (by omega) (by omega) e1 ?_
                            refine zp_store (L' := [(10, 1, v1), (4, 0, ((d : Int) + 1)), (8, 1, v2), (7, 0, (C (b + 1))), (6, 0, 9), (5, 0, (b : Int)), (0, 2, (a : Int)), (1, 2, (xt9 : Int)), (2, 0, (i2 : Int)), (3, 2, (wd9 : Int))]) (pc := 258) hx hb hnL (zd_X6_value (258, .lstore 10, 2, 0, []) (List.mem_of_getElem? (i := 140) rfl)) rfl rfl rfl ?_
                            refine zp_load (pc := 260) hx hb (zd_X6_value (260, .iload 6, 2, 0, []) (List.mem_of_getElem? (i := 141) rfl)) rfl (j := 4) rfl ?_
                            refine zp_tin (tgt := 334) (off := 72) (pc := 262) hx hb (zd_X6_value (262, .tableswitch 154 6 12 #[42, 52, 62, 72, 95, 118, 136], 42, 0, []) (List.mem_of_getElem? (i := 142) rfl)) (by decide) (by decide) (by decide) rfl ?_
                            refine zp_load (pc := 334) hx hb (zd_X6_value (334, .lload 8, 2, 0, []) (List.mem_of_getElem? (i := 158) rfl)) rfl (j := 2) rfl ?_
                            refine zp_const (pc := 336) hx hb (zd_X6_value (336, .lconst 0, 1, 0, []) (List.mem_of_getElem? (i := 159) rfl)) rfl rfl ?_
                            refine zp_lcmp (pc := 337) (tgt := 347) hx hb (zd_X6_value (337, .lcmp, 1, 0, []) (List.mem_of_getElem? (i := 160) rfl)) (zd_X6_value (338, .ifCond .ne 9, 3, 0, []) (List.mem_of_getElem? (i := 161) rfl)) rfl (fun (hc427 : ¬ v2 = 0) => ?_) (fun (hc427 : ¬ (¬ v2 = 0)) => ?_)
                            · exfalso
                              omega
                            · refine zp_ldc2 (pc := 341) hx hb hE (zd_X6_value (341, .ldc2_w 53, 3, 0, []) (List.mem_of_getElem? (i := 162) rfl)) (j := 12) rfl ?_
                              refine zp_goto (tgt := 352) (pc := 344) hx hb (zd_X6_value (344, .goto 8, 3, 0, []) (List.mem_of_getElem? (i := 163) rfl)) rfl ?_
                              refine zp_store (L' := [(12, 1, (-9000000000)), (10, 1, v1), (4, 0, ((d : Int) + 1)), (8, 1, v2), (7, 0, (C (b + 1))), (6, 0, 9), (5, 0, (b : Int)), (0, 2, (a : Int)), (1, 2, (xt9 : Int)), (2, 0, (i2 : Int)), (3, 2, (wd9 : Int))]) (pc := 352) hx hb hnL (zd_X6_value (352, .lstore 12, 2, 0, []) (List.mem_of_getElem? (i := 167) rfl)) rfl rfl rfl ?_
                              refine zp_goto (tgt := 431) (pc := 354) hx hb (zd_X6_value (354, .goto 77, 3, 0, []) (List.mem_of_getElem? (i := 168) rfl)) rfl ?_
                              refine zp_load (pc := 431) hx hb (zd_X6_value (431, .lload 12, 2, 0, []) (List.mem_of_getElem? (i := 206) rfl)) rfl (j := 0) rfl ?_
                              refine zp_ldc2 (pc := 433) hx hb hE (zd_X6_value (433, .ldc2_w 89, 3, 0, []) (List.mem_of_getElem? (i := 207) rfl)) (j := 13) rfl ?_
                              refine zp_lcmp (pc := 436) (tgt := 449) hx hb (zd_X6_value (436, .lcmp, 1, 0, []) (List.mem_of_getElem? (i := 208) rfl)) (zd_X6_value (437, .ifCond .gt 12, 3, 0, []) (List.mem_of_getElem? (i := 209) rfl)) rfl (fun (hc428 : 1000000000 < (-9000000000)) => ?_) (fun (hc428 : ¬ (1000000000 < (-9000000000))) => ?_)
                              · exfalso
                                omega
                              · refine zp_load (pc := 440) hx hb (zd_X6_value (440, .lload 12, 2, 0, []) (List.mem_of_getElem? (i := 210) rfl)) rfl (j := 0) rfl ?_
                                refine zp_ldc2 (pc := 442) hx hb hE (zd_X6_value (442, .ldc2_w 91, 3, 0, []) (List.mem_of_getElem? (i := 211) rfl)) (j := 14) rfl ?_
                                refine zp_lcmp (pc := 445) (tgt := 453) hx hb (zd_X6_value (445, .lcmp, 1, 0, []) (List.mem_of_getElem? (i := 212) rfl)) (zd_X6_value (446, .ifCond .ge 7, 3, 0, []) (List.mem_of_getElem? (i := 213) rfl)) rfl (fun (hc429 : (-1000000000) ≤ (-9000000000)) => ?_) (fun (hc429 : ¬ ((-1000000000) ≤ (-9000000000))) => ?_)
                                · exfalso
                                  omega
                                · refine zp_ldc2 (pc := 449) hx hb hE (zd_X6_value (449, .ldc2_w 53, 3, 0, []) (List.mem_of_getElem? (i := 214) rfl)) (j := 12) rfl ?_
                                  have hz : x en = none := kb (zg_bn0 ⟨by decide, hn1⟩)
                                  refine zp_lret (pc := 452) (n := (-9000000000)) hx hb hE hQ hU5 rfl (by decide) (zd_X6_value (452, .lreturn, 1, 0, []) (List.mem_of_getElem? (i := 215) rfl)) (j := 0) rfl (zp_o1 (by first | assumption | exact zp_r1 (by omega) (by omega))) ?_
                                  rw [hps]
                                  exact ⟨rfl, fun v hv => (by rw [hz] at hv; cases hv), fun _ => rfl⟩
                          · exfalso
                            omega
                        · exfalso
                          omega
                    · exfalso
                      omega
                  · exfalso
                    omega
                · exfalso
                  omega
              · exfalso
                omega
    · have hn0 : v2 ≠ 0 := hn1
      have hl13 := hm.2.2.1
      refine zp_load (pc := 13) hx hb (zd_X6_value (13, .iload 5, 2, 0, []) (List.mem_of_getElem? (i := 9) rfl)) rfl (j := 1) rfl ?_
      refine zp_if (pc := 15) (tgt := 470) hx hb (zd_X6_value (15, .ifCond .lt 455, 3, 0, []) (List.mem_of_getElem? (i := 10) rfl)) rfl (fun (hc430 : (b : Int) < 0) => ?_) (fun (hc430 : ¬ ((b : Int) < 0)) => ?_)
      · exfalso
        omega
      · refine zp_load (pc := 18) hx hb (zd_X6_value (18, .iload 5, 2, 0, []) (List.mem_of_getElem? (i := 11) rfl)) rfl (j := 1) rfl ?_
        refine zp_const (pc := 20) hx hb (zd_X6_value (20, .iconst 1, 1, 0, []) (List.mem_of_getElem? (i := 12) rfl)) rfl rfl ?_
        refine zp_add (n := ((b : Int) + 1)) (pc := 21) hx hb (zd_X6_value (21, .iadd, 1, 0, []) (List.mem_of_getElem? (i := 13) rfl)) (by omega) (zp_r0 (by omega) (by omega)) ?_
        refine zp_load (pc := 22) hx hb (zd_X6_value (22, .aload_n 1, 1, 0, []) (List.mem_of_getElem? (i := 14) rfl)) rfl (j := 3) rfl ?_
        refine zp_getf (n := (cd : Int)) (pc := 23) hx hb hE hw (zd_X6_value (23, .getfield 86, 3, 0, []) (List.mem_of_getElem? (i := 15) rfl)) (j := 10) rfl rfl rfl qxt hm.2.1 ?_
        refine zp_alenN (N := N) (pc := 26) hx hb hw (zd_X6_value (26, .arraylength, 1, 0, []) (List.mem_of_getElem? (i := 16) rfl)) qcd ⟨_, rfl, by decide, by decide⟩ hm.2.2.1 ?_
        refine zp_icmp (pc := 27) (tgt := 470) hx hb (zd_X6_value (27, .if_icmp .ge 443, 3, 0, []) (List.mem_of_getElem? (i := 17) rfl)) rfl (fun (hc431 : (N : Int) ≤ ((b : Int) + 1)) => ?_) (fun (hc431 : ¬ ((N : Int) ≤ ((b : Int) + 1))) => ?_)
        · exfalso
          omega
        · refine zp_load (pc := 30) hx hb (zd_X6_value (30, .iload 4, 2, 0, []) (List.mem_of_getElem? (i := 18) rfl)) rfl (j := 0) rfl ?_
          refine zp_const (pc := 32) hx hb (zd_X6_value (32, .bipush 64, 2, 0, []) (List.mem_of_getElem? (i := 19) rfl)) rfl rfl ?_
          refine zp_icmp (pc := 34) (tgt := 470) hx hb (zd_X6_value (34, .if_icmp .ge 436, 3, 0, []) (List.mem_of_getElem? (i := 20) rfl)) rfl (fun (hc432 : 64 ≤ ((d : Int) + 2)) => ?_) (fun (hc432 : ¬ (64 ≤ ((d : Int) + 2))) => ?_)
          · exfalso
            omega
          · refine zp_load (pc := 37) hx hb (zd_X6_value (37, .aload_n 1, 1, 0, []) (List.mem_of_getElem? (i := 21) rfl)) rfl (j := 3) rfl ?_
            refine zp_getf (n := (cd : Int)) (pc := 38) hx hb hE hw (zd_X6_value (38, .getfield 86, 3, 0, []) (List.mem_of_getElem? (i := 22) rfl)) (j := 10) rfl rfl rfl qxt hm.2.1 ?_
            refine zp_load (pc := 41) hx hb (zd_X6_value (41, .iload 5, 2, 0, []) (List.mem_of_getElem? (i := 23) rfl)) rfl (j := 1) rfl ?_
            refine zp_ialdN (j := b) (v := 9) (N := N) (pc := 43) hx hb hw (zd_X6_value (43, .iaload, 1, 0, []) (List.mem_of_getElem? (i := 24) rfl)) (show zp_ia 1 35 = some (872, 0, 0, (-1000000), 1000000) from rfl) ⟨_, rfl, by decide⟩ hm.2.2.1 qcd (by omega) (by omega) ho1 (fun hk433 => ?_)
            have hk433b := zp_int hk433
            refine zp_store (L' := [(6, 0, 9), (4, 0, ((d : Int) + 2)), (5, 0, (b : Int)), (0, 2, (a : Int)), (1, 2, (xt9 : Int)), (2, 0, (i2 : Int)), (3, 2, (wd9 : Int))]) (pc := 44) hx hb hnL (zd_X6_value (44, .istore 6, 2, 0, []) (List.mem_of_getElem? (i := 25) rfl)) rfl rfl rfl ?_
            refine zp_load (pc := 46) hx hb (zd_X6_value (46, .aload_n 1, 1, 0, []) (List.mem_of_getElem? (i := 26) rfl)) rfl (j := 4) rfl ?_
            refine zp_getf (n := (cd : Int)) (pc := 47) hx hb hE hw (zd_X6_value (47, .getfield 86, 3, 0, []) (List.mem_of_getElem? (i := 27) rfl)) (j := 10) rfl rfl rfl qxt hm.2.1 ?_
            refine zp_load (pc := 50) hx hb (zd_X6_value (50, .iload 5, 2, 0, []) (List.mem_of_getElem? (i := 28) rfl)) rfl (j := 2) rfl ?_
            refine zp_const (pc := 52) hx hb (zd_X6_value (52, .iconst 1, 1, 0, []) (List.mem_of_getElem? (i := 29) rfl)) rfl rfl ?_
            refine zp_add (n := ((b : Int) + 1)) (pc := 53) hx hb (zd_X6_value (53, .iadd, 1, 0, []) (List.mem_of_getElem? (i := 30) rfl)) (by omega) (zp_r0 (by omega) (by omega)) ?_
            refine zp_ialdN (j := (b + 1)) (v := (C (b + 1))) (N := N) (pc := 54) hx hb hw (zd_X6_value (54, .iaload, 1, 0, []) (List.mem_of_getElem? (i := 31) rfl)) (show zp_ia 1 35 = some (872, 0, 0, (-1000000), 1000000) from rfl) ⟨_, rfl, by decide⟩ hm.2.2.1 qcd (by omega) (by omega) (hm.2.2.2.1 (b + 1)) (fun hk434 => ?_)
            have hk434b := zp_int hk434
            refine zp_store (L' := [(7, 0, (C (b + 1))), (6, 0, 9), (4, 0, ((d : Int) + 2)), (5, 0, (b : Int)), (0, 2, (a : Int)), (1, 2, (xt9 : Int)), (2, 0, (i2 : Int)), (3, 2, (wd9 : Int))]) (pc := 55) hx hb hnL (zd_X6_value (55, .istore 7, 2, 0, []) (List.mem_of_getElem? (i := 32) rfl)) rfl rfl rfl ?_
            refine zp_load (pc := 57) hx hb (zd_X6_value (57, .iload 6, 2, 0, []) (List.mem_of_getElem? (i := 33) rfl)) rfl (j := 1) rfl ?_
            refine zp_const (pc := 59) hx hb (zd_X6_value (59, .iconst 1, 1, 0, []) (List.mem_of_getElem? (i := 34) rfl)) rfl rfl ?_
            refine zp_icmp (pc := 60) (tgt := 69) hx hb (zd_X6_value (60, .if_icmp .eq 9, 3, 0, []) (List.mem_of_getElem? (i := 35) rfl)) rfl (fun (hc435 : 9 = 1) => ?_) (fun (hc435 : ¬ (9 = 1)) => ?_)
            · exfalso
              omega
            · refine zp_load (pc := 63) hx hb (zd_X6_value (63, .iload 6, 2, 0, []) (List.mem_of_getElem? (i := 36) rfl)) rfl (j := 1) rfl ?_
              refine zp_const (pc := 65) hx hb (zd_X6_value (65, .iconst 2, 1, 0, []) (List.mem_of_getElem? (i := 37) rfl)) rfl rfl ?_
              refine zp_icmp (pc := 66) (tgt := 123) hx hb (zd_X6_value (66, .if_icmp .ne 57, 3, 0, []) (List.mem_of_getElem? (i := 38) rfl)) rfl (fun (hc436 : ¬ 9 = 2) => ?_) (fun (hc436 : ¬ (¬ 9 = 2)) => ?_)
              · refine zp_load (pc := 123) hx hb (zd_X6_value (123, .iload 4, 2, 0, []) (List.mem_of_getElem? (i := 67) rfl)) rfl (j := 2) rfl ?_
                refine zp_const (pc := 125) hx hb (zd_X6_value (125, .iconst 1, 1, 0, []) (List.mem_of_getElem? (i := 68) rfl)) rfl rfl ?_
                refine zp_icmp (pc := 126) (tgt := 133) hx hb (zd_X6_value (126, .if_icmp .ge 7, 3, 0, []) (List.mem_of_getElem? (i := 69) rfl)) rfl (fun (hc437 : 1 ≤ ((d : Int) + 2)) => ?_) (fun (hc437 : ¬ (1 ≤ ((d : Int) + 2))) => ?_)
                · refine zp_load (pc := 133) hx hb (zd_X6_value (133, .aload_n 0, 1, 0, []) (List.mem_of_getElem? (i := 72) rfl)) rfl (j := 4) rfl ?_
                  refine zp_getf (n := (st : Int)) (pc := 134) hx hb hE hw (zd_X6_value (134, .getfield 15, 3, 0, []) (List.mem_of_getElem? (i := 73) rfl)) (j := 5) rfl rfl rfl hp hm.1 ?_
                  refine zp_load (pc := 137) hx hb (zd_X6_value (137, .iload 4, 2, 0, []) (List.mem_of_getElem? (i := 74) rfl)) rfl (j := 2) rfl ?_
                  refine zp_const (pc := 139) hx hb (zd_X6_value (139, .iconst 1, 1, 0, []) (List.mem_of_getElem? (i := 75) rfl)) rfl rfl ?_
                  refine zp_sub (n := ((d : Int) + 1)) (pc := 140) hx hb (zd_X6_value (140, .isub, 1, 0, []) (List.mem_of_getElem? (i := 76) rfl)) (by omega) (zp_r0 (by omega) (by omega)) ?_
                  refine zp_lald (j := (d + 1)) (v := v2) (pc := 141) hx hb hw (zd_X6_value (141, .laload, 1, 0, []) (List.mem_of_getElem? (i := 77) rfl)) (show zp_ia 2 28 = some (64, 1, 0, (-9223372036854775808), 9223372036854775807) from rfl) qst (by omega) (by omega) e2 ?_
                  refine zp_store (L' := [(8, 1, v2), (7, 0, (C (b + 1))), (6, 0, 9), (4, 0, ((d : Int) + 2)), (5, 0, (b : Int)), (0, 2, (a : Int)), (1, 2, (xt9 : Int)), (2, 0, (i2 : Int)), (3, 2, (wd9 : Int))]) (pc := 142) hx hb hnL (zd_X6_value (142, .lstore 8, 2, 0, []) (List.mem_of_getElem? (i := 78) rfl)) rfl rfl rfl ?_
                  refine zp_load (pc := 144) hx hb (zd_X6_value (144, .iload 6, 2, 0, []) (List.mem_of_getElem? (i := 79) rfl)) rfl (j := 2) rfl ?_
                  refine zp_if (pc := 146) (tgt := 152) hx hb (zd_X6_value (146, .ifCond .ne 6, 3, 0, []) (List.mem_of_getElem? (i := 80) rfl)) rfl (fun (hc439 : ¬ 9 = 0) => ?_) (fun (hc439 : ¬ (¬ 9 = 0)) => ?_)
                  · refine zp_load (pc := 152) hx hb (zd_X6_value (152, .iload 6, 2, 0, []) (List.mem_of_getElem? (i := 83) rfl)) rfl (j := 2) rfl ?_
                    refine zp_const (pc := 154) hx hb (zd_X6_value (154, .iconst 3, 1, 0, []) (List.mem_of_getElem? (i := 84) rfl)) rfl rfl ?_
                    refine zp_icmp (pc := 155) (tgt := 174) hx hb (zd_X6_value (155, .if_icmp .ne 19, 3, 0, []) (List.mem_of_getElem? (i := 85) rfl)) rfl (fun (hc440 : ¬ 9 = 3) => ?_) (fun (hc440 : ¬ (¬ 9 = 3)) => ?_)
                    · refine zp_load (pc := 174) hx hb (zd_X6_value (174, .iload 6, 2, 0, []) (List.mem_of_getElem? (i := 96) rfl)) rfl (j := 2) rfl ?_
                      refine zp_const (pc := 176) hx hb (zd_X6_value (176, .iconst 4, 1, 0, []) (List.mem_of_getElem? (i := 97) rfl)) rfl rfl ?_
                      refine zp_icmp (pc := 177) (tgt := 186) hx hb (zd_X6_value (177, .if_icmp .eq 9, 3, 0, []) (List.mem_of_getElem? (i := 98) rfl)) rfl (fun (hc441 : 9 = 4) => ?_) (fun (hc441 : ¬ (9 = 4)) => ?_)
                      · exfalso
                        omega
                      · refine zp_load (pc := 180) hx hb (zd_X6_value (180, .iload 6, 2, 0, []) (List.mem_of_getElem? (i := 99) rfl)) rfl (j := 2) rfl ?_
                        refine zp_const (pc := 182) hx hb (zd_X6_value (182, .iconst 5, 1, 0, []) (List.mem_of_getElem? (i := 100) rfl)) rfl rfl ?_
                        refine zp_icmp (pc := 183) (tgt := 236) hx hb (zd_X6_value (183, .if_icmp .ne 53, 3, 0, []) (List.mem_of_getElem? (i := 101) rfl)) rfl (fun (hc442 : ¬ 9 = 5) => ?_) (fun (hc442 : ¬ (¬ 9 = 5)) => ?_)
                        · refine zp_load (pc := 236) hx hb (zd_X6_value (236, .iload 4, 2, 0, []) (List.mem_of_getElem? (i := 128) rfl)) rfl (j := 3) rfl ?_
                          refine zp_const (pc := 238) hx hb (zd_X6_value (238, .iconst 2, 1, 0, []) (List.mem_of_getElem? (i := 129) rfl)) rfl rfl ?_
                          refine zp_icmp (pc := 239) (tgt := 246) hx hb (zd_X6_value (239, .if_icmp .ge 7, 3, 0, []) (List.mem_of_getElem? (i := 130) rfl)) rfl (fun (hc443 : 2 ≤ ((d : Int) + 2)) => ?_) (fun (hc443 : ¬ (2 ≤ ((d : Int) + 2))) => ?_)
                          · refine zp_iinc (L' := [(4, 0, ((d : Int) + 1)), (8, 1, v2), (7, 0, (C (b + 1))), (6, 0, 9), (5, 0, (b : Int)), (0, 2, (a : Int)), (1, 2, (xt9 : Int)), (2, 0, (i2 : Int)), (3, 2, (wd9 : Int))]) (n := ((d : Int) + 1)) (pc := 246) hx hb hnL (zd_X6_value (246, .iinc 4 (-1), 3, 0, []) (List.mem_of_getElem? (i := 133) rfl)) (j := 3) rfl (by omega) (zp_r0 (by omega) (by omega)) rfl rfl ?_
                            refine zp_load (pc := 249) hx hb (zd_X6_value (249, .aload_n 0, 1, 0, []) (List.mem_of_getElem? (i := 134) rfl)) rfl (j := 5) rfl ?_
                            refine zp_getf (n := (st : Int)) (pc := 250) hx hb hE hw (zd_X6_value (250, .getfield 15, 3, 0, []) (List.mem_of_getElem? (i := 135) rfl)) (j := 5) rfl rfl rfl hp hm.1 ?_
                            refine zp_load (pc := 253) hx hb (zd_X6_value (253, .iload 4, 2, 0, []) (List.mem_of_getElem? (i := 136) rfl)) rfl (j := 0) rfl ?_
                            refine zp_const (pc := 255) hx hb (zd_X6_value (255, .iconst 1, 1, 0, []) (List.mem_of_getElem? (i := 137) rfl)) rfl rfl ?_
                            refine zp_sub (n := (d : Int)) (pc := 256) hx hb (zd_X6_value (256, .isub, 1, 0, []) (List.mem_of_getElem? (i := 138) rfl)) (by omega) (zp_r0 (by omega) (by omega)) ?_
                            refine zp_lald (j := d) (v := v1) (pc := 257) hx hb hw (zd_X6_value (257, .laload, 1, 0, []) (List.mem_of_getElem? (i := 139) rfl)) (show zp_ia 2 28 = some (64, 1, 0, (-9223372036854775808), 9223372036854775807) from rfl) qst (by omega) (by omega) e1 ?_
                            refine zp_store (L' := [(10, 1, v1), (4, 0, ((d : Int) + 1)), (8, 1, v2), (7, 0, (C (b + 1))), (6, 0, 9), (5, 0, (b : Int)), (0, 2, (a : Int)), (1, 2, (xt9 : Int)), (2, 0, (i2 : Int)), (3, 2, (wd9 : Int))]) (pc := 258) hx hb hnL (zd_X6_value (258, .lstore 10, 2, 0, []) (List.mem_of_getElem? (i := 140) rfl)) rfl rfl rfl ?_
                            refine zp_load (pc := 260) hx hb (zd_X6_value (260, .iload 6, 2, 0, []) (List.mem_of_getElem? (i := 141) rfl)) rfl (j := 4) rfl ?_
                            refine zp_tin (tgt := 334) (off := 72) (pc := 262) hx hb (zd_X6_value (262, .tableswitch 154 6 12 #[42, 52, 62, 72, 95, 118, 136], 42, 0, []) (List.mem_of_getElem? (i := 142) rfl)) (by decide) (by decide) (by decide) rfl ?_
                            refine zp_load (pc := 334) hx hb (zd_X6_value (334, .lload 8, 2, 0, []) (List.mem_of_getElem? (i := 158) rfl)) rfl (j := 2) rfl ?_
                            refine zp_const (pc := 336) hx hb (zd_X6_value (336, .lconst 0, 1, 0, []) (List.mem_of_getElem? (i := 159) rfl)) rfl rfl ?_
                            refine zp_lcmp (pc := 337) (tgt := 347) hx hb (zd_X6_value (337, .lcmp, 1, 0, []) (List.mem_of_getElem? (i := 160) rfl)) (zd_X6_value (338, .ifCond .ne 9, 3, 0, []) (List.mem_of_getElem? (i := 161) rfl)) rfl (fun (hc445 : ¬ v2 = 0) => ?_) (fun (hc445 : ¬ (¬ v2 = 0)) => ?_)
                            · refine zp_load (pc := 347) hx hb (zd_X6_value (347, .lload 10, 2, 0, []) (List.mem_of_getElem? (i := 164) rfl)) rfl (j := 0) rfl ?_
                              refine zp_load (pc := 349) hx hb (zd_X6_value (349, .lload 8, 2, 0, []) (List.mem_of_getElem? (i := 165) rfl)) rfl (j := 2) rfl ?_
                              refine zp_ldivx (n := (v1.tdiv v2)) (pc := 351) hx hb (zd_X6_value (351, .ldiv, 1, 0, []) (List.mem_of_getElem? (i := 166) rfl)) hn0 rfl (zp_r1 (by have := (zg_divr (b := v2) bd1.1 bd1.2).1; omega) (by have := (zg_divr (b := v2) bd1.1 bd1.2).2; omega)) ?_
                              refine zp_store (L' := [(12, 1, (v1.tdiv v2)), (10, 1, v1), (4, 0, ((d : Int) + 1)), (8, 1, v2), (7, 0, (C (b + 1))), (6, 0, 9), (5, 0, (b : Int)), (0, 2, (a : Int)), (1, 2, (xt9 : Int)), (2, 0, (i2 : Int)), (3, 2, (wd9 : Int))]) (pc := 352) hx hb hnL (zd_X6_value (352, .lstore 12, 2, 0, []) (List.mem_of_getElem? (i := 167) rfl)) rfl rfl rfl ?_
                              refine zp_goto (tgt := 431) (pc := 354) hx hb (zd_X6_value (354, .goto 77, 3, 0, []) (List.mem_of_getElem? (i := 168) rfl)) rfl ?_
                              have hrg9 := zg_divr (b := v2) bd1.1 bd1.2
                              refine zp_load (pc := 431) hx hb (zd_X6_value (431, .lload 12, 2, 0, []) (List.mem_of_getElem? (i := 206) rfl)) rfl (j := 0) rfl ?_
                              refine zp_ldc2 (pc := 433) hx hb hE (zd_X6_value (433, .ldc2_w 89, 3, 0, []) (List.mem_of_getElem? (i := 207) rfl)) (j := 13) rfl ?_
                              refine zp_lcmp (pc := 436) (tgt := 449) hx hb (zd_X6_value (436, .lcmp, 1, 0, []) (List.mem_of_getElem? (i := 208) rfl)) (zd_X6_value (437, .ifCond .gt 12, 3, 0, []) (List.mem_of_getElem? (i := 209) rfl)) rfl (fun (hc446 : 1000000000 < (v1.tdiv v2)) => ?_) (fun (hc446 : ¬ (1000000000 < (v1.tdiv v2))) => ?_)
                              · refine zp_ldc2 (pc := 449) hx hb hE (zd_X6_value (449, .ldc2_w 53, 3, 0, []) (List.mem_of_getElem? (i := 214) rfl)) (j := 12) rfl ?_
                                have hz : x en = none := kb (zg_bnn (fun h => hn0 h.2) (show (v1.tdiv v2) = yd_v 23 v1 v2 from rfl) (by omega))
                                refine zp_lret (pc := 452) (n := (-9000000000)) hx hb hE hQ hU5 rfl (by decide) (zd_X6_value (452, .lreturn, 1, 0, []) (List.mem_of_getElem? (i := 215) rfl)) (j := 0) rfl (zp_o1 (by first | assumption | exact zp_r1 (by omega) (by omega))) ?_
                                rw [hps]
                                exact ⟨rfl, fun v hv => (by rw [hz] at hv; cases hv), fun _ => rfl⟩
                              · refine zp_load (pc := 440) hx hb (zd_X6_value (440, .lload 12, 2, 0, []) (List.mem_of_getElem? (i := 210) rfl)) rfl (j := 0) rfl ?_
                                refine zp_ldc2 (pc := 442) hx hb hE (zd_X6_value (442, .ldc2_w 91, 3, 0, []) (List.mem_of_getElem? (i := 211) rfl)) (j := 14) rfl ?_
                                refine zp_lcmp (pc := 445) (tgt := 453) hx hb (zd_X6_value (445, .lcmp, 1, 0, []) (List.mem_of_getElem? (i := 212) rfl)) (zd_X6_value (446, .ifCond .ge 7, 3, 0, []) (List.mem_of_getElem? (i := 213) rfl)) rfl (fun (hc447 : (-1000000000) ≤ (v1.tdiv v2)) => ?_) (fun (hc447 : ¬ ((-1000000000) ≤ (v1.tdiv v2))) => ?_)
                                · refine zp_load (pc := 453) hx hb (zd_X6_value (453, .aload_n 0, 1, 0, []) (List.mem_of_getElem? (i := 216) rfl)) rfl (j := 7) rfl ?_
                                  refine zp_getf (n := (st : Int)) (pc := 454) hx hb hE hw (zd_X6_value (454, .getfield 15, 3, 0, []) (List.mem_of_getElem? (i := 217) rfl)) (j := 5) rfl rfl rfl hp hm.1 ?_
                                  refine zp_load (pc := 457) hx hb (zd_X6_value (457, .iload 4, 2, 0, []) (List.mem_of_getElem? (i := 218) rfl)) rfl (j := 2) rfl ?_
                                  refine zp_const (pc := 459) hx hb (zd_X6_value (459, .iconst 1, 1, 0, []) (List.mem_of_getElem? (i := 219) rfl)) rfl rfl ?_
                                  refine zp_sub (n := (d : Int)) (pc := 460) hx hb (zd_X6_value (460, .isub, 1, 0, []) (List.mem_of_getElem? (i := 220) rfl)) (by omega) (zp_r0 (by omega) (by omega)) ?_
                                  refine zp_load (pc := 461) hx hb (zd_X6_value (461, .lload 12, 2, 0, []) (List.mem_of_getElem? (i := 221) rfl)) rfl (j := 0) rfl ?_
                                  refine zp_last (j := d) (pc := 463) hx hb hw heff (zd_X6_value (463, .lastore, 1, 0, []) (List.mem_of_getElem? (i := 222) rfl)) (show zp_ia 2 28 = some (64, 1, 0, (-9223372036854775808), 9223372036854775807) from rfl) qst (by omega) (by omega) rfl ?_
                                  refine zp_iinc (L' := [(5, 0, ((b : Int) + 2)), (12, 1, (v1.tdiv v2)), (10, 1, v1), (4, 0, ((d : Int) + 1)), (8, 1, v2), (7, 0, (C (b + 1))), (6, 0, 9), (0, 2, (a : Int)), (1, 2, (xt9 : Int)), (2, 0, (i2 : Int)), (3, 2, (wd9 : Int))]) (n := ((b : Int) + 2)) (pc := 464) hx hb hnL (zd_X6_value (464, .iinc 5 2, 3, 0, []) (List.mem_of_getElem? (i := 223) rfl)) (j := 6) rfl (by omega) (zp_r0 (by omega) (by omega)) rfl rfl ?_
                                  refine zp_goto (tgt := 13) (pc := 467) hx hb (zd_X6_value (467, .goto (-454), 3, 0, []) (List.mem_of_getElem? (i := 224) rfl)) rfl ?_
                                  refine zp_drop (L' := [(4, 0, ((d : Int) + 1)), (5, 0, ((b : Int) + 2)), (0, 2, (a : Int)), (1, 2, (xt9 : Int)), (2, 0, (i2 : Int)), (3, 2, (wd9 : Int))]) (by simp) ?_
                                  exact kk (v1.tdiv v2) _ (zg_bns (fun h => hn0 h.2) (show (v1.tdiv v2) = yd_v 23 v1 v2 from rfl) (by omega) (by omega)) (zgV_s hm n1 n2 n3 n4) (fun j hj => zp_set_ne (Or.inr (by omega))) zp_set_self
                                · refine zp_ldc2 (pc := 449) hx hb hE (zd_X6_value (449, .ldc2_w 53, 3, 0, []) (List.mem_of_getElem? (i := 214) rfl)) (j := 12) rfl ?_
                                  have hz : x en = none := kb (zg_bnn (fun h => hn0 h.2) (show (v1.tdiv v2) = yd_v 23 v1 v2 from rfl) (by omega))
                                  refine zp_lret (pc := 452) (n := (-9000000000)) hx hb hE hQ hU5 rfl (by decide) (zd_X6_value (452, .lreturn, 1, 0, []) (List.mem_of_getElem? (i := 215) rfl)) (j := 0) rfl (zp_o1 (by first | assumption | exact zp_r1 (by omega) (by omega))) ?_
                                  rw [hps]
                                  exact ⟨rfl, fun v hv => (by rw [hz] at hv; cases hv), fun _ => rfl⟩
                            · exfalso
                              omega
                          · exfalso
                            omega
                        · exfalso
                          omega
                    · exfalso
                      omega
                  · exfalso
                    omega
                · exfalso
                  omega
              · exfalso
                omega
  have step_10 : ∀ (b d : Nat) (v1 v2 : Int) (G : Nat → Nat → Int), b < e9 → d + 2 < 64 → zgV a xt9 cd st wd9 N C Wd G → C b = 10 → G st (2000 + d) = v1 → G st (2000 + (d + 1)) = v2 → -2147483648 ≤ v1 ∧ v1 ≤ 2147483648 → -2147483648 ≤ v2 ∧ v2 ≤ 2147483648 → (∀ (v : Int) (G' : Nat → Nat → Int), yd_bn 24 v1 v2 = some v → zgV a xt9 cd st wd9 N C Wd G' → (∀ j, j < d → G' st (2000 + j) = G st (2000 + j)) → G' st (2000 + d) = v → zp_J p l e R s m args below meth c Q w u [] 13 [(4, 0, ((d + 1 : Nat) : Int)), (5, 0, ((b + 2 : Nat) : Int)), (0, 2, (a : Int)), (1, 2, (xt9 : Int)), (2, 0, (i2 : Int)), (3, 2, (wd9 : Int))] [] u.1 G') → (yd_bn 24 v1 v2 = none → x en = none) → zp_J p l e R s m args below meth c Q w u [] 13 [(4, 0, ((d + 2 : Nat) : Int)), (5, 0, ((b : Nat) : Int)), (0, 2, (a : Int)), (1, 2, (xt9 : Int)), (2, 0, (i2 : Int)), (3, 2, (wd9 : Int))] [] u.1 G := by
    clear step_l1 step_l2 exitv step_nt step_b4 step_b5 step_6 step_7 step_8 step_9
    intro b d v1 v2 G hb2 hd hm o1 e1 e2 bd1 bd2 kk kb
    have ho1 : G cd (2000 + b) = 10 := (hm.2.2.2.1 b).trans o1
    refine zp_drop (L' := [(4, 0, ((d : Int) + 2)), (5, 0, (b : Int)), (0, 2, (a : Int)), (1, 2, (xt9 : Int)), (2, 0, (i2 : Int)), (3, 2, (wd9 : Int))]) (by simp <;> omega) ?_
    have h99 : zk_rg 1 (-9000000000) := ⟨by decide, by decide⟩
    by_cases hn1 : v2 = 0
    · have hl13 := hm.2.2.1
      refine zp_load (pc := 13) hx hb (zd_X6_value (13, .iload 5, 2, 0, []) (List.mem_of_getElem? (i := 9) rfl)) rfl (j := 1) rfl ?_
      refine zp_if (pc := 15) (tgt := 470) hx hb (zd_X6_value (15, .ifCond .lt 455, 3, 0, []) (List.mem_of_getElem? (i := 10) rfl)) rfl (fun (hc448 : (b : Int) < 0) => ?_) (fun (hc448 : ¬ ((b : Int) < 0)) => ?_)
      · exfalso
        omega
      · refine zp_load (pc := 18) hx hb (zd_X6_value (18, .iload 5, 2, 0, []) (List.mem_of_getElem? (i := 11) rfl)) rfl (j := 1) rfl ?_
        refine zp_const (pc := 20) hx hb (zd_X6_value (20, .iconst 1, 1, 0, []) (List.mem_of_getElem? (i := 12) rfl)) rfl rfl ?_
        refine zp_add (n := ((b : Int) + 1)) (pc := 21) hx hb (zd_X6_value (21, .iadd, 1, 0, []) (List.mem_of_getElem? (i := 13) rfl)) (by omega) (zp_r0 (by omega) (by omega)) ?_
        refine zp_load (pc := 22) hx hb (zd_X6_value (22, .aload_n 1, 1, 0, []) (List.mem_of_getElem? (i := 14) rfl)) rfl (j := 3) rfl ?_
        refine zp_getf (n := (cd : Int)) (pc := 23) hx hb hE hw (zd_X6_value (23, .getfield 86, 3, 0, []) (List.mem_of_getElem? (i := 15) rfl)) (j := 10) rfl rfl rfl qxt hm.2.1 ?_
        refine zp_alenN (N := N) (pc := 26) hx hb hw (zd_X6_value (26, .arraylength, 1, 0, []) (List.mem_of_getElem? (i := 16) rfl)) qcd ⟨_, rfl, by decide, by decide⟩ hm.2.2.1 ?_
        refine zp_icmp (pc := 27) (tgt := 470) hx hb (zd_X6_value (27, .if_icmp .ge 443, 3, 0, []) (List.mem_of_getElem? (i := 17) rfl)) rfl (fun (hc449 : (N : Int) ≤ ((b : Int) + 1)) => ?_) (fun (hc449 : ¬ ((N : Int) ≤ ((b : Int) + 1))) => ?_)
        · exfalso
          omega
        · refine zp_load (pc := 30) hx hb (zd_X6_value (30, .iload 4, 2, 0, []) (List.mem_of_getElem? (i := 18) rfl)) rfl (j := 0) rfl ?_
          refine zp_const (pc := 32) hx hb (zd_X6_value (32, .bipush 64, 2, 0, []) (List.mem_of_getElem? (i := 19) rfl)) rfl rfl ?_
          refine zp_icmp (pc := 34) (tgt := 470) hx hb (zd_X6_value (34, .if_icmp .ge 436, 3, 0, []) (List.mem_of_getElem? (i := 20) rfl)) rfl (fun (hc450 : 64 ≤ ((d : Int) + 2)) => ?_) (fun (hc450 : ¬ (64 ≤ ((d : Int) + 2))) => ?_)
          · exfalso
            omega
          · refine zp_load (pc := 37) hx hb (zd_X6_value (37, .aload_n 1, 1, 0, []) (List.mem_of_getElem? (i := 21) rfl)) rfl (j := 3) rfl ?_
            refine zp_getf (n := (cd : Int)) (pc := 38) hx hb hE hw (zd_X6_value (38, .getfield 86, 3, 0, []) (List.mem_of_getElem? (i := 22) rfl)) (j := 10) rfl rfl rfl qxt hm.2.1 ?_
            refine zp_load (pc := 41) hx hb (zd_X6_value (41, .iload 5, 2, 0, []) (List.mem_of_getElem? (i := 23) rfl)) rfl (j := 1) rfl ?_
            refine zp_ialdN (j := b) (v := 10) (N := N) (pc := 43) hx hb hw (zd_X6_value (43, .iaload, 1, 0, []) (List.mem_of_getElem? (i := 24) rfl)) (show zp_ia 1 35 = some (872, 0, 0, (-1000000), 1000000) from rfl) ⟨_, rfl, by decide⟩ hm.2.2.1 qcd (by omega) (by omega) ho1 (fun hk451 => ?_)
            have hk451b := zp_int hk451
            refine zp_store (L' := [(6, 0, 10), (4, 0, ((d : Int) + 2)), (5, 0, (b : Int)), (0, 2, (a : Int)), (1, 2, (xt9 : Int)), (2, 0, (i2 : Int)), (3, 2, (wd9 : Int))]) (pc := 44) hx hb hnL (zd_X6_value (44, .istore 6, 2, 0, []) (List.mem_of_getElem? (i := 25) rfl)) rfl rfl rfl ?_
            refine zp_load (pc := 46) hx hb (zd_X6_value (46, .aload_n 1, 1, 0, []) (List.mem_of_getElem? (i := 26) rfl)) rfl (j := 4) rfl ?_
            refine zp_getf (n := (cd : Int)) (pc := 47) hx hb hE hw (zd_X6_value (47, .getfield 86, 3, 0, []) (List.mem_of_getElem? (i := 27) rfl)) (j := 10) rfl rfl rfl qxt hm.2.1 ?_
            refine zp_load (pc := 50) hx hb (zd_X6_value (50, .iload 5, 2, 0, []) (List.mem_of_getElem? (i := 28) rfl)) rfl (j := 2) rfl ?_
            refine zp_const (pc := 52) hx hb (zd_X6_value (52, .iconst 1, 1, 0, []) (List.mem_of_getElem? (i := 29) rfl)) rfl rfl ?_
            refine zp_add (n := ((b : Int) + 1)) (pc := 53) hx hb (zd_X6_value (53, .iadd, 1, 0, []) (List.mem_of_getElem? (i := 30) rfl)) (by omega) (zp_r0 (by omega) (by omega)) ?_
            refine zp_ialdN (j := (b + 1)) (v := (C (b + 1))) (N := N) (pc := 54) hx hb hw (zd_X6_value (54, .iaload, 1, 0, []) (List.mem_of_getElem? (i := 31) rfl)) (show zp_ia 1 35 = some (872, 0, 0, (-1000000), 1000000) from rfl) ⟨_, rfl, by decide⟩ hm.2.2.1 qcd (by omega) (by omega) (hm.2.2.2.1 (b + 1)) (fun hk452 => ?_)
            have hk452b := zp_int hk452
            refine zp_store (L' := [(7, 0, (C (b + 1))), (6, 0, 10), (4, 0, ((d : Int) + 2)), (5, 0, (b : Int)), (0, 2, (a : Int)), (1, 2, (xt9 : Int)), (2, 0, (i2 : Int)), (3, 2, (wd9 : Int))]) (pc := 55) hx hb hnL (zd_X6_value (55, .istore 7, 2, 0, []) (List.mem_of_getElem? (i := 32) rfl)) rfl rfl rfl ?_
            refine zp_load (pc := 57) hx hb (zd_X6_value (57, .iload 6, 2, 0, []) (List.mem_of_getElem? (i := 33) rfl)) rfl (j := 1) rfl ?_
            refine zp_const (pc := 59) hx hb (zd_X6_value (59, .iconst 1, 1, 0, []) (List.mem_of_getElem? (i := 34) rfl)) rfl rfl ?_
            refine zp_icmp (pc := 60) (tgt := 69) hx hb (zd_X6_value (60, .if_icmp .eq 9, 3, 0, []) (List.mem_of_getElem? (i := 35) rfl)) rfl (fun (hc453 : 10 = 1) => ?_) (fun (hc453 : ¬ (10 = 1)) => ?_)
            · exfalso
              omega
            · refine zp_load (pc := 63) hx hb (zd_X6_value (63, .iload 6, 2, 0, []) (List.mem_of_getElem? (i := 36) rfl)) rfl (j := 1) rfl ?_
              refine zp_const (pc := 65) hx hb (zd_X6_value (65, .iconst 2, 1, 0, []) (List.mem_of_getElem? (i := 37) rfl)) rfl rfl ?_
              refine zp_icmp (pc := 66) (tgt := 123) hx hb (zd_X6_value (66, .if_icmp .ne 57, 3, 0, []) (List.mem_of_getElem? (i := 38) rfl)) rfl (fun (hc454 : ¬ 10 = 2) => ?_) (fun (hc454 : ¬ (¬ 10 = 2)) => ?_)
              · refine zp_load (pc := 123) hx hb (zd_X6_value (123, .iload 4, 2, 0, []) (List.mem_of_getElem? (i := 67) rfl)) rfl (j := 2) rfl ?_
                refine zp_const (pc := 125) hx hb (zd_X6_value (125, .iconst 1, 1, 0, []) (List.mem_of_getElem? (i := 68) rfl)) rfl rfl ?_
                refine zp_icmp (pc := 126) (tgt := 133) hx hb (zd_X6_value (126, .if_icmp .ge 7, 3, 0, []) (List.mem_of_getElem? (i := 69) rfl)) rfl (fun (hc455 : 1 ≤ ((d : Int) + 2)) => ?_) (fun (hc455 : ¬ (1 ≤ ((d : Int) + 2))) => ?_)
                · refine zp_load (pc := 133) hx hb (zd_X6_value (133, .aload_n 0, 1, 0, []) (List.mem_of_getElem? (i := 72) rfl)) rfl (j := 4) rfl ?_
                  refine zp_getf (n := (st : Int)) (pc := 134) hx hb hE hw (zd_X6_value (134, .getfield 15, 3, 0, []) (List.mem_of_getElem? (i := 73) rfl)) (j := 5) rfl rfl rfl hp hm.1 ?_
                  refine zp_load (pc := 137) hx hb (zd_X6_value (137, .iload 4, 2, 0, []) (List.mem_of_getElem? (i := 74) rfl)) rfl (j := 2) rfl ?_
                  refine zp_const (pc := 139) hx hb (zd_X6_value (139, .iconst 1, 1, 0, []) (List.mem_of_getElem? (i := 75) rfl)) rfl rfl ?_
                  refine zp_sub (n := ((d : Int) + 1)) (pc := 140) hx hb (zd_X6_value (140, .isub, 1, 0, []) (List.mem_of_getElem? (i := 76) rfl)) (by omega) (zp_r0 (by omega) (by omega)) ?_
                  refine zp_lald (j := (d + 1)) (v := v2) (pc := 141) hx hb hw (zd_X6_value (141, .laload, 1, 0, []) (List.mem_of_getElem? (i := 77) rfl)) (show zp_ia 2 28 = some (64, 1, 0, (-9223372036854775808), 9223372036854775807) from rfl) qst (by omega) (by omega) e2 ?_
                  refine zp_store (L' := [(8, 1, v2), (7, 0, (C (b + 1))), (6, 0, 10), (4, 0, ((d : Int) + 2)), (5, 0, (b : Int)), (0, 2, (a : Int)), (1, 2, (xt9 : Int)), (2, 0, (i2 : Int)), (3, 2, (wd9 : Int))]) (pc := 142) hx hb hnL (zd_X6_value (142, .lstore 8, 2, 0, []) (List.mem_of_getElem? (i := 78) rfl)) rfl rfl rfl ?_
                  refine zp_load (pc := 144) hx hb (zd_X6_value (144, .iload 6, 2, 0, []) (List.mem_of_getElem? (i := 79) rfl)) rfl (j := 2) rfl ?_
                  refine zp_if (pc := 146) (tgt := 152) hx hb (zd_X6_value (146, .ifCond .ne 6, 3, 0, []) (List.mem_of_getElem? (i := 80) rfl)) rfl (fun (hc457 : ¬ 10 = 0) => ?_) (fun (hc457 : ¬ (¬ 10 = 0)) => ?_)
                  · refine zp_load (pc := 152) hx hb (zd_X6_value (152, .iload 6, 2, 0, []) (List.mem_of_getElem? (i := 83) rfl)) rfl (j := 2) rfl ?_
                    refine zp_const (pc := 154) hx hb (zd_X6_value (154, .iconst 3, 1, 0, []) (List.mem_of_getElem? (i := 84) rfl)) rfl rfl ?_
                    refine zp_icmp (pc := 155) (tgt := 174) hx hb (zd_X6_value (155, .if_icmp .ne 19, 3, 0, []) (List.mem_of_getElem? (i := 85) rfl)) rfl (fun (hc458 : ¬ 10 = 3) => ?_) (fun (hc458 : ¬ (¬ 10 = 3)) => ?_)
                    · refine zp_load (pc := 174) hx hb (zd_X6_value (174, .iload 6, 2, 0, []) (List.mem_of_getElem? (i := 96) rfl)) rfl (j := 2) rfl ?_
                      refine zp_const (pc := 176) hx hb (zd_X6_value (176, .iconst 4, 1, 0, []) (List.mem_of_getElem? (i := 97) rfl)) rfl rfl ?_
                      refine zp_icmp (pc := 177) (tgt := 186) hx hb (zd_X6_value (177, .if_icmp .eq 9, 3, 0, []) (List.mem_of_getElem? (i := 98) rfl)) rfl (fun (hc459 : 10 = 4) => ?_) (fun (hc459 : ¬ (10 = 4)) => ?_)
                      · exfalso
                        omega
                      · refine zp_load (pc := 180) hx hb (zd_X6_value (180, .iload 6, 2, 0, []) (List.mem_of_getElem? (i := 99) rfl)) rfl (j := 2) rfl ?_
                        refine zp_const (pc := 182) hx hb (zd_X6_value (182, .iconst 5, 1, 0, []) (List.mem_of_getElem? (i := 100) rfl)) rfl rfl ?_
                        refine zp_icmp (pc := 183) (tgt := 236) hx hb (zd_X6_value (183, .if_icmp .ne 53, 3, 0, []) (List.mem_of_getElem? (i := 101) rfl)) rfl (fun (hc460 : ¬ 10 = 5) => ?_) (fun (hc460 : ¬ (¬ 10 = 5)) => ?_)
                        · refine zp_load (pc := 236) hx hb (zd_X6_value (236, .iload 4, 2, 0, []) (List.mem_of_getElem? (i := 128) rfl)) rfl (j := 3) rfl ?_
                          refine zp_const (pc := 238) hx hb (zd_X6_value (238, .iconst 2, 1, 0, []) (List.mem_of_getElem? (i := 129) rfl)) rfl rfl ?_
                          refine zp_icmp (pc := 239) (tgt := 246) hx hb (zd_X6_value (239, .if_icmp .ge 7, 3, 0, []) (List.mem_of_getElem? (i := 130) rfl)) rfl (fun (hc461 : 2 ≤ ((d : Int) + 2)) => ?_) (fun (hc461 : ¬ (2 ≤ ((d : Int) + 2))) => ?_)
                          · refine zp_iinc (L' := [(4, 0, ((d : Int) + 1)), (8, 1, v2), (7, 0, (C (b + 1))), (6, 0, 10), (5, 0, (b : Int)), (0, 2, (a : Int)), (1, 2, (xt9 : Int)), (2, 0, (i2 : Int)), (3, 2, (wd9 : Int))]) (n := ((d : Int) + 1)) (pc := 246) hx hb hnL (zd_X6_value (246, .iinc 4 (-1), 3, 0, []) (List.mem_of_getElem? (i := 133) rfl)) (j := 3) rfl (by omega) (zp_r0 (by omega) (by omega)) rfl rfl ?_
                            refine zp_load (pc := 249) hx hb (zd_X6_value (249, .aload_n 0, 1, 0, []) (List.mem_of_getElem? (i := 134) rfl)) rfl (j := 5) rfl ?_
                            refine zp_getf (n := (st : Int)) (pc := 250) hx hb hE hw (zd_X6_value (250, .getfield 15, 3, 0, []) (List.mem_of_getElem? (i := 135) rfl)) (j := 5) rfl rfl rfl hp hm.1 ?_
                            refine zp_load (pc := 253) hx hb (zd_X6_value (253, .iload 4, 2, 0, []) (List.mem_of_getElem? (i := 136) rfl)) rfl (j := 0) rfl ?_
                            refine zp_const (pc := 255) hx hb (zd_X6_value (255, .iconst 1, 1, 0, []) (List.mem_of_getElem? (i := 137) rfl)) rfl rfl ?_
                            refine zp_sub (n := (d : Int)) (pc := 256) hx hb (zd_X6_value (256, .isub, 1, 0, []) (List.mem_of_getElem? (i := 138) rfl)) (by omega) (zp_r0 (by omega) (by omega)) ?_
                            refine zp_lald (j := d) (v := v1) (pc := 257) hx hb hw (zd_X6_value (257, .laload, 1, 0, []) (List.mem_of_getElem? (i := 139) rfl)) (show zp_ia 2 28 = some (64, 1, 0, (-9223372036854775808), 9223372036854775807) from rfl) qst (by omega) (by omega) e1 ?_
                            refine zp_store (L' := [(10, 1, v1), (4, 0, ((d : Int) + 1)), (8, 1, v2), (7, 0, (C (b + 1))), (6, 0, 10), (5, 0, (b : Int)), (0, 2, (a : Int)), (1, 2, (xt9 : Int)), (2, 0, (i2 : Int)), (3, 2, (wd9 : Int))]) (pc := 258) hx hb hnL (zd_X6_value (258, .lstore 10, 2, 0, []) (List.mem_of_getElem? (i := 140) rfl)) rfl rfl rfl ?_
                            refine zp_load (pc := 260) hx hb (zd_X6_value (260, .iload 6, 2, 0, []) (List.mem_of_getElem? (i := 141) rfl)) rfl (j := 4) rfl ?_
                            refine zp_tin (tgt := 357) (off := 95) (pc := 262) hx hb (zd_X6_value (262, .tableswitch 154 6 12 #[42, 52, 62, 72, 95, 118, 136], 42, 0, []) (List.mem_of_getElem? (i := 142) rfl)) (by decide) (by decide) (by decide) rfl ?_
                            refine zp_load (pc := 357) hx hb (zd_X6_value (357, .lload 8, 2, 0, []) (List.mem_of_getElem? (i := 169) rfl)) rfl (j := 2) rfl ?_
                            refine zp_const (pc := 359) hx hb (zd_X6_value (359, .lconst 0, 1, 0, []) (List.mem_of_getElem? (i := 170) rfl)) rfl rfl ?_
                            refine zp_lcmp (pc := 360) (tgt := 370) hx hb (zd_X6_value (360, .lcmp, 1, 0, []) (List.mem_of_getElem? (i := 171) rfl)) (zd_X6_value (361, .ifCond .ne 9, 3, 0, []) (List.mem_of_getElem? (i := 172) rfl)) rfl (fun (hc463 : ¬ v2 = 0) => ?_) (fun (hc463 : ¬ (¬ v2 = 0)) => ?_)
                            · exfalso
                              omega
                            · refine zp_ldc2 (pc := 364) hx hb hE (zd_X6_value (364, .ldc2_w 53, 3, 0, []) (List.mem_of_getElem? (i := 173) rfl)) (j := 12) rfl ?_
                              refine zp_goto (tgt := 375) (pc := 367) hx hb (zd_X6_value (367, .goto 8, 3, 0, []) (List.mem_of_getElem? (i := 174) rfl)) rfl ?_
                              refine zp_store (L' := [(12, 1, (-9000000000)), (10, 1, v1), (4, 0, ((d : Int) + 1)), (8, 1, v2), (7, 0, (C (b + 1))), (6, 0, 10), (5, 0, (b : Int)), (0, 2, (a : Int)), (1, 2, (xt9 : Int)), (2, 0, (i2 : Int)), (3, 2, (wd9 : Int))]) (pc := 375) hx hb hnL (zd_X6_value (375, .lstore 12, 2, 0, []) (List.mem_of_getElem? (i := 178) rfl)) rfl rfl rfl ?_
                              refine zp_goto (tgt := 431) (pc := 377) hx hb (zd_X6_value (377, .goto 54, 3, 0, []) (List.mem_of_getElem? (i := 179) rfl)) rfl ?_
                              refine zp_load (pc := 431) hx hb (zd_X6_value (431, .lload 12, 2, 0, []) (List.mem_of_getElem? (i := 206) rfl)) rfl (j := 0) rfl ?_
                              refine zp_ldc2 (pc := 433) hx hb hE (zd_X6_value (433, .ldc2_w 89, 3, 0, []) (List.mem_of_getElem? (i := 207) rfl)) (j := 13) rfl ?_
                              refine zp_lcmp (pc := 436) (tgt := 449) hx hb (zd_X6_value (436, .lcmp, 1, 0, []) (List.mem_of_getElem? (i := 208) rfl)) (zd_X6_value (437, .ifCond .gt 12, 3, 0, []) (List.mem_of_getElem? (i := 209) rfl)) rfl (fun (hc464 : 1000000000 < (-9000000000)) => ?_) (fun (hc464 : ¬ (1000000000 < (-9000000000))) => ?_)
                              · exfalso
                                omega
                              · refine zp_load (pc := 440) hx hb (zd_X6_value (440, .lload 12, 2, 0, []) (List.mem_of_getElem? (i := 210) rfl)) rfl (j := 0) rfl ?_
                                refine zp_ldc2 (pc := 442) hx hb hE (zd_X6_value (442, .ldc2_w 91, 3, 0, []) (List.mem_of_getElem? (i := 211) rfl)) (j := 14) rfl ?_
                                refine zp_lcmp (pc := 445) (tgt := 453) hx hb (zd_X6_value (445, .lcmp, 1, 0, []) (List.mem_of_getElem? (i := 212) rfl)) (zd_X6_value (446, .ifCond .ge 7, 3, 0, []) (List.mem_of_getElem? (i := 213) rfl)) rfl (fun (hc465 : (-1000000000) ≤ (-9000000000)) => ?_) (fun (hc465 : ¬ ((-1000000000) ≤ (-9000000000))) => ?_)
                                · exfalso
                                  omega
                                · refine zp_ldc2 (pc := 449) hx hb hE (zd_X6_value (449, .ldc2_w 53, 3, 0, []) (List.mem_of_getElem? (i := 214) rfl)) (j := 12) rfl ?_
                                  have hz : x en = none := kb (zg_bn0 ⟨by decide, hn1⟩)
                                  refine zp_lret (pc := 452) (n := (-9000000000)) hx hb hE hQ hU5 rfl (by decide) (zd_X6_value (452, .lreturn, 1, 0, []) (List.mem_of_getElem? (i := 215) rfl)) (j := 0) rfl (zp_o1 (by first | assumption | exact zp_r1 (by omega) (by omega))) ?_
                                  rw [hps]
                                  exact ⟨rfl, fun v hv => (by rw [hz] at hv; cases hv), fun _ => rfl⟩
                          · exfalso
                            omega
                        · exfalso
                          omega
                    · exfalso
                      omega
                  · exfalso
                    omega
                · exfalso
                  omega
              · exfalso
                omega
    · have hn0 : v2 ≠ 0 := hn1
      have hl13 := hm.2.2.1
      refine zp_load (pc := 13) hx hb (zd_X6_value (13, .iload 5, 2, 0, []) (List.mem_of_getElem? (i := 9) rfl)) rfl (j := 1) rfl ?_
      refine zp_if (pc := 15) (tgt := 470) hx hb (zd_X6_value (15, .ifCond .lt 455, 3, 0, []) (List.mem_of_getElem? (i := 10) rfl)) rfl (fun (hc466 : (b : Int) < 0) => ?_) (fun (hc466 : ¬ ((b : Int) < 0)) => ?_)
      · exfalso
        omega
      · refine zp_load (pc := 18) hx hb (zd_X6_value (18, .iload 5, 2, 0, []) (List.mem_of_getElem? (i := 11) rfl)) rfl (j := 1) rfl ?_
        refine zp_const (pc := 20) hx hb (zd_X6_value (20, .iconst 1, 1, 0, []) (List.mem_of_getElem? (i := 12) rfl)) rfl rfl ?_
        refine zp_add (n := ((b : Int) + 1)) (pc := 21) hx hb (zd_X6_value (21, .iadd, 1, 0, []) (List.mem_of_getElem? (i := 13) rfl)) (by omega) (zp_r0 (by omega) (by omega)) ?_
        refine zp_load (pc := 22) hx hb (zd_X6_value (22, .aload_n 1, 1, 0, []) (List.mem_of_getElem? (i := 14) rfl)) rfl (j := 3) rfl ?_
        refine zp_getf (n := (cd : Int)) (pc := 23) hx hb hE hw (zd_X6_value (23, .getfield 86, 3, 0, []) (List.mem_of_getElem? (i := 15) rfl)) (j := 10) rfl rfl rfl qxt hm.2.1 ?_
        refine zp_alenN (N := N) (pc := 26) hx hb hw (zd_X6_value (26, .arraylength, 1, 0, []) (List.mem_of_getElem? (i := 16) rfl)) qcd ⟨_, rfl, by decide, by decide⟩ hm.2.2.1 ?_
        refine zp_icmp (pc := 27) (tgt := 470) hx hb (zd_X6_value (27, .if_icmp .ge 443, 3, 0, []) (List.mem_of_getElem? (i := 17) rfl)) rfl (fun (hc467 : (N : Int) ≤ ((b : Int) + 1)) => ?_) (fun (hc467 : ¬ ((N : Int) ≤ ((b : Int) + 1))) => ?_)
        · exfalso
          omega
        · refine zp_load (pc := 30) hx hb (zd_X6_value (30, .iload 4, 2, 0, []) (List.mem_of_getElem? (i := 18) rfl)) rfl (j := 0) rfl ?_
          refine zp_const (pc := 32) hx hb (zd_X6_value (32, .bipush 64, 2, 0, []) (List.mem_of_getElem? (i := 19) rfl)) rfl rfl ?_
          refine zp_icmp (pc := 34) (tgt := 470) hx hb (zd_X6_value (34, .if_icmp .ge 436, 3, 0, []) (List.mem_of_getElem? (i := 20) rfl)) rfl (fun (hc468 : 64 ≤ ((d : Int) + 2)) => ?_) (fun (hc468 : ¬ (64 ≤ ((d : Int) + 2))) => ?_)
          · exfalso
            omega
          · refine zp_load (pc := 37) hx hb (zd_X6_value (37, .aload_n 1, 1, 0, []) (List.mem_of_getElem? (i := 21) rfl)) rfl (j := 3) rfl ?_
            refine zp_getf (n := (cd : Int)) (pc := 38) hx hb hE hw (zd_X6_value (38, .getfield 86, 3, 0, []) (List.mem_of_getElem? (i := 22) rfl)) (j := 10) rfl rfl rfl qxt hm.2.1 ?_
            refine zp_load (pc := 41) hx hb (zd_X6_value (41, .iload 5, 2, 0, []) (List.mem_of_getElem? (i := 23) rfl)) rfl (j := 1) rfl ?_
            refine zp_ialdN (j := b) (v := 10) (N := N) (pc := 43) hx hb hw (zd_X6_value (43, .iaload, 1, 0, []) (List.mem_of_getElem? (i := 24) rfl)) (show zp_ia 1 35 = some (872, 0, 0, (-1000000), 1000000) from rfl) ⟨_, rfl, by decide⟩ hm.2.2.1 qcd (by omega) (by omega) ho1 (fun hk469 => ?_)
            have hk469b := zp_int hk469
            refine zp_store (L' := [(6, 0, 10), (4, 0, ((d : Int) + 2)), (5, 0, (b : Int)), (0, 2, (a : Int)), (1, 2, (xt9 : Int)), (2, 0, (i2 : Int)), (3, 2, (wd9 : Int))]) (pc := 44) hx hb hnL (zd_X6_value (44, .istore 6, 2, 0, []) (List.mem_of_getElem? (i := 25) rfl)) rfl rfl rfl ?_
            refine zp_load (pc := 46) hx hb (zd_X6_value (46, .aload_n 1, 1, 0, []) (List.mem_of_getElem? (i := 26) rfl)) rfl (j := 4) rfl ?_
            refine zp_getf (n := (cd : Int)) (pc := 47) hx hb hE hw (zd_X6_value (47, .getfield 86, 3, 0, []) (List.mem_of_getElem? (i := 27) rfl)) (j := 10) rfl rfl rfl qxt hm.2.1 ?_
            refine zp_load (pc := 50) hx hb (zd_X6_value (50, .iload 5, 2, 0, []) (List.mem_of_getElem? (i := 28) rfl)) rfl (j := 2) rfl ?_
            refine zp_const (pc := 52) hx hb (zd_X6_value (52, .iconst 1, 1, 0, []) (List.mem_of_getElem? (i := 29) rfl)) rfl rfl ?_
            refine zp_add (n := ((b : Int) + 1)) (pc := 53) hx hb (zd_X6_value (53, .iadd, 1, 0, []) (List.mem_of_getElem? (i := 30) rfl)) (by omega) (zp_r0 (by omega) (by omega)) ?_
            refine zp_ialdN (j := (b + 1)) (v := (C (b + 1))) (N := N) (pc := 54) hx hb hw (zd_X6_value (54, .iaload, 1, 0, []) (List.mem_of_getElem? (i := 31) rfl)) (show zp_ia 1 35 = some (872, 0, 0, (-1000000), 1000000) from rfl) ⟨_, rfl, by decide⟩ hm.2.2.1 qcd (by omega) (by omega) (hm.2.2.2.1 (b + 1)) (fun hk470 => ?_)
            have hk470b := zp_int hk470
            refine zp_store (L' := [(7, 0, (C (b + 1))), (6, 0, 10), (4, 0, ((d : Int) + 2)), (5, 0, (b : Int)), (0, 2, (a : Int)), (1, 2, (xt9 : Int)), (2, 0, (i2 : Int)), (3, 2, (wd9 : Int))]) (pc := 55) hx hb hnL (zd_X6_value (55, .istore 7, 2, 0, []) (List.mem_of_getElem? (i := 32) rfl)) rfl rfl rfl ?_
            refine zp_load (pc := 57) hx hb (zd_X6_value (57, .iload 6, 2, 0, []) (List.mem_of_getElem? (i := 33) rfl)) rfl (j := 1) rfl ?_
            refine zp_const (pc := 59) hx hb (zd_X6_value (59, .iconst 1, 1, 0, []) (List.mem_of_getElem? (i := 34) rfl)) rfl rfl ?_
            refine zp_icmp (pc := 60) (tgt := 69) hx hb (zd_X6_value (60, .if_icmp .eq 9, 3, 0, []) (List.mem_of_getElem? (i := 35) rfl)) rfl (fun (hc471 : 10 = 1) => ?_) (fun (hc471 : ¬ (10 = 1)) => ?_)
            · exfalso
              omega
            · refine zp_load (pc := 63) hx hb (zd_X6_value (63, .iload 6, 2, 0, []) (List.mem_of_getElem? (i := 36) rfl)) rfl (j := 1) rfl ?_
              refine zp_const (pc := 65) hx hb (zd_X6_value (65, .iconst 2, 1, 0, []) (List.mem_of_getElem? (i := 37) rfl)) rfl rfl ?_
              refine zp_icmp (pc := 66) (tgt := 123) hx hb (zd_X6_value (66, .if_icmp .ne 57, 3, 0, []) (List.mem_of_getElem? (i := 38) rfl)) rfl (fun (hc472 : ¬ 10 = 2) => ?_) (fun (hc472 : ¬ (¬ 10 = 2)) => ?_)
              · refine zp_load (pc := 123) hx hb (zd_X6_value (123, .iload 4, 2, 0, []) (List.mem_of_getElem? (i := 67) rfl)) rfl (j := 2) rfl ?_
                refine zp_const (pc := 125) hx hb (zd_X6_value (125, .iconst 1, 1, 0, []) (List.mem_of_getElem? (i := 68) rfl)) rfl rfl ?_
                refine zp_icmp (pc := 126) (tgt := 133) hx hb (zd_X6_value (126, .if_icmp .ge 7, 3, 0, []) (List.mem_of_getElem? (i := 69) rfl)) rfl (fun (hc473 : 1 ≤ ((d : Int) + 2)) => ?_) (fun (hc473 : ¬ (1 ≤ ((d : Int) + 2))) => ?_)
                · refine zp_load (pc := 133) hx hb (zd_X6_value (133, .aload_n 0, 1, 0, []) (List.mem_of_getElem? (i := 72) rfl)) rfl (j := 4) rfl ?_
                  refine zp_getf (n := (st : Int)) (pc := 134) hx hb hE hw (zd_X6_value (134, .getfield 15, 3, 0, []) (List.mem_of_getElem? (i := 73) rfl)) (j := 5) rfl rfl rfl hp hm.1 ?_
                  refine zp_load (pc := 137) hx hb (zd_X6_value (137, .iload 4, 2, 0, []) (List.mem_of_getElem? (i := 74) rfl)) rfl (j := 2) rfl ?_
                  refine zp_const (pc := 139) hx hb (zd_X6_value (139, .iconst 1, 1, 0, []) (List.mem_of_getElem? (i := 75) rfl)) rfl rfl ?_
                  refine zp_sub (n := ((d : Int) + 1)) (pc := 140) hx hb (zd_X6_value (140, .isub, 1, 0, []) (List.mem_of_getElem? (i := 76) rfl)) (by omega) (zp_r0 (by omega) (by omega)) ?_
                  refine zp_lald (j := (d + 1)) (v := v2) (pc := 141) hx hb hw (zd_X6_value (141, .laload, 1, 0, []) (List.mem_of_getElem? (i := 77) rfl)) (show zp_ia 2 28 = some (64, 1, 0, (-9223372036854775808), 9223372036854775807) from rfl) qst (by omega) (by omega) e2 ?_
                  refine zp_store (L' := [(8, 1, v2), (7, 0, (C (b + 1))), (6, 0, 10), (4, 0, ((d : Int) + 2)), (5, 0, (b : Int)), (0, 2, (a : Int)), (1, 2, (xt9 : Int)), (2, 0, (i2 : Int)), (3, 2, (wd9 : Int))]) (pc := 142) hx hb hnL (zd_X6_value (142, .lstore 8, 2, 0, []) (List.mem_of_getElem? (i := 78) rfl)) rfl rfl rfl ?_
                  refine zp_load (pc := 144) hx hb (zd_X6_value (144, .iload 6, 2, 0, []) (List.mem_of_getElem? (i := 79) rfl)) rfl (j := 2) rfl ?_
                  refine zp_if (pc := 146) (tgt := 152) hx hb (zd_X6_value (146, .ifCond .ne 6, 3, 0, []) (List.mem_of_getElem? (i := 80) rfl)) rfl (fun (hc475 : ¬ 10 = 0) => ?_) (fun (hc475 : ¬ (¬ 10 = 0)) => ?_)
                  · refine zp_load (pc := 152) hx hb (zd_X6_value (152, .iload 6, 2, 0, []) (List.mem_of_getElem? (i := 83) rfl)) rfl (j := 2) rfl ?_
                    refine zp_const (pc := 154) hx hb (zd_X6_value (154, .iconst 3, 1, 0, []) (List.mem_of_getElem? (i := 84) rfl)) rfl rfl ?_
                    refine zp_icmp (pc := 155) (tgt := 174) hx hb (zd_X6_value (155, .if_icmp .ne 19, 3, 0, []) (List.mem_of_getElem? (i := 85) rfl)) rfl (fun (hc476 : ¬ 10 = 3) => ?_) (fun (hc476 : ¬ (¬ 10 = 3)) => ?_)
                    · refine zp_load (pc := 174) hx hb (zd_X6_value (174, .iload 6, 2, 0, []) (List.mem_of_getElem? (i := 96) rfl)) rfl (j := 2) rfl ?_
                      refine zp_const (pc := 176) hx hb (zd_X6_value (176, .iconst 4, 1, 0, []) (List.mem_of_getElem? (i := 97) rfl)) rfl rfl ?_
                      refine zp_icmp (pc := 177) (tgt := 186) hx hb (zd_X6_value (177, .if_icmp .eq 9, 3, 0, []) (List.mem_of_getElem? (i := 98) rfl)) rfl (fun (hc477 : 10 = 4) => ?_) (fun (hc477 : ¬ (10 = 4)) => ?_)
                      · exfalso
                        omega
                      · refine zp_load (pc := 180) hx hb (zd_X6_value (180, .iload 6, 2, 0, []) (List.mem_of_getElem? (i := 99) rfl)) rfl (j := 2) rfl ?_
                        refine zp_const (pc := 182) hx hb (zd_X6_value (182, .iconst 5, 1, 0, []) (List.mem_of_getElem? (i := 100) rfl)) rfl rfl ?_
                        refine zp_icmp (pc := 183) (tgt := 236) hx hb (zd_X6_value (183, .if_icmp .ne 53, 3, 0, []) (List.mem_of_getElem? (i := 101) rfl)) rfl (fun (hc478 : ¬ 10 = 5) => ?_) (fun (hc478 : ¬ (¬ 10 = 5)) => ?_)
                        · refine zp_load (pc := 236) hx hb (zd_X6_value (236, .iload 4, 2, 0, []) (List.mem_of_getElem? (i := 128) rfl)) rfl (j := 3) rfl ?_
                          refine zp_const (pc := 238) hx hb (zd_X6_value (238, .iconst 2, 1, 0, []) (List.mem_of_getElem? (i := 129) rfl)) rfl rfl ?_
                          refine zp_icmp (pc := 239) (tgt := 246) hx hb (zd_X6_value (239, .if_icmp .ge 7, 3, 0, []) (List.mem_of_getElem? (i := 130) rfl)) rfl (fun (hc479 : 2 ≤ ((d : Int) + 2)) => ?_) (fun (hc479 : ¬ (2 ≤ ((d : Int) + 2))) => ?_)
                          · refine zp_iinc (L' := [(4, 0, ((d : Int) + 1)), (8, 1, v2), (7, 0, (C (b + 1))), (6, 0, 10), (5, 0, (b : Int)), (0, 2, (a : Int)), (1, 2, (xt9 : Int)), (2, 0, (i2 : Int)), (3, 2, (wd9 : Int))]) (n := ((d : Int) + 1)) (pc := 246) hx hb hnL (zd_X6_value (246, .iinc 4 (-1), 3, 0, []) (List.mem_of_getElem? (i := 133) rfl)) (j := 3) rfl (by omega) (zp_r0 (by omega) (by omega)) rfl rfl ?_
                            refine zp_load (pc := 249) hx hb (zd_X6_value (249, .aload_n 0, 1, 0, []) (List.mem_of_getElem? (i := 134) rfl)) rfl (j := 5) rfl ?_
                            refine zp_getf (n := (st : Int)) (pc := 250) hx hb hE hw (zd_X6_value (250, .getfield 15, 3, 0, []) (List.mem_of_getElem? (i := 135) rfl)) (j := 5) rfl rfl rfl hp hm.1 ?_
                            refine zp_load (pc := 253) hx hb (zd_X6_value (253, .iload 4, 2, 0, []) (List.mem_of_getElem? (i := 136) rfl)) rfl (j := 0) rfl ?_
                            refine zp_const (pc := 255) hx hb (zd_X6_value (255, .iconst 1, 1, 0, []) (List.mem_of_getElem? (i := 137) rfl)) rfl rfl ?_
                            refine zp_sub (n := (d : Int)) (pc := 256) hx hb (zd_X6_value (256, .isub, 1, 0, []) (List.mem_of_getElem? (i := 138) rfl)) (by omega) (zp_r0 (by omega) (by omega)) ?_
                            refine zp_lald (j := d) (v := v1) (pc := 257) hx hb hw (zd_X6_value (257, .laload, 1, 0, []) (List.mem_of_getElem? (i := 139) rfl)) (show zp_ia 2 28 = some (64, 1, 0, (-9223372036854775808), 9223372036854775807) from rfl) qst (by omega) (by omega) e1 ?_
                            refine zp_store (L' := [(10, 1, v1), (4, 0, ((d : Int) + 1)), (8, 1, v2), (7, 0, (C (b + 1))), (6, 0, 10), (5, 0, (b : Int)), (0, 2, (a : Int)), (1, 2, (xt9 : Int)), (2, 0, (i2 : Int)), (3, 2, (wd9 : Int))]) (pc := 258) hx hb hnL (zd_X6_value (258, .lstore 10, 2, 0, []) (List.mem_of_getElem? (i := 140) rfl)) rfl rfl rfl ?_
                            refine zp_load (pc := 260) hx hb (zd_X6_value (260, .iload 6, 2, 0, []) (List.mem_of_getElem? (i := 141) rfl)) rfl (j := 4) rfl ?_
                            refine zp_tin (tgt := 357) (off := 95) (pc := 262) hx hb (zd_X6_value (262, .tableswitch 154 6 12 #[42, 52, 62, 72, 95, 118, 136], 42, 0, []) (List.mem_of_getElem? (i := 142) rfl)) (by decide) (by decide) (by decide) rfl ?_
                            refine zp_load (pc := 357) hx hb (zd_X6_value (357, .lload 8, 2, 0, []) (List.mem_of_getElem? (i := 169) rfl)) rfl (j := 2) rfl ?_
                            refine zp_const (pc := 359) hx hb (zd_X6_value (359, .lconst 0, 1, 0, []) (List.mem_of_getElem? (i := 170) rfl)) rfl rfl ?_
                            refine zp_lcmp (pc := 360) (tgt := 370) hx hb (zd_X6_value (360, .lcmp, 1, 0, []) (List.mem_of_getElem? (i := 171) rfl)) (zd_X6_value (361, .ifCond .ne 9, 3, 0, []) (List.mem_of_getElem? (i := 172) rfl)) rfl (fun (hc481 : ¬ v2 = 0) => ?_) (fun (hc481 : ¬ (¬ v2 = 0)) => ?_)
                            · refine zp_load (pc := 370) hx hb (zd_X6_value (370, .lload 10, 2, 0, []) (List.mem_of_getElem? (i := 175) rfl)) rfl (j := 0) rfl ?_
                              refine zp_load (pc := 372) hx hb (zd_X6_value (372, .lload 8, 2, 0, []) (List.mem_of_getElem? (i := 176) rfl)) rfl (j := 2) rfl ?_
                              refine zp_lremx (n := (v1.tmod v2)) (pc := 374) hx hb (zd_X6_value (374, .lrem, 1, 0, []) (List.mem_of_getElem? (i := 177) rfl)) hn0 rfl (zp_r1 (by have := (zg_modr (b := v2) bd1.1 bd1.2).1; omega) (by have := (zg_modr (b := v2) bd1.1 bd1.2).2; omega)) ?_
                              refine zp_store (L' := [(12, 1, (v1.tmod v2)), (10, 1, v1), (4, 0, ((d : Int) + 1)), (8, 1, v2), (7, 0, (C (b + 1))), (6, 0, 10), (5, 0, (b : Int)), (0, 2, (a : Int)), (1, 2, (xt9 : Int)), (2, 0, (i2 : Int)), (3, 2, (wd9 : Int))]) (pc := 375) hx hb hnL (zd_X6_value (375, .lstore 12, 2, 0, []) (List.mem_of_getElem? (i := 178) rfl)) rfl rfl rfl ?_
                              refine zp_goto (tgt := 431) (pc := 377) hx hb (zd_X6_value (377, .goto 54, 3, 0, []) (List.mem_of_getElem? (i := 179) rfl)) rfl ?_
                              have hrg9 := zg_modr (b := v2) bd1.1 bd1.2
                              refine zp_load (pc := 431) hx hb (zd_X6_value (431, .lload 12, 2, 0, []) (List.mem_of_getElem? (i := 206) rfl)) rfl (j := 0) rfl ?_
                              refine zp_ldc2 (pc := 433) hx hb hE (zd_X6_value (433, .ldc2_w 89, 3, 0, []) (List.mem_of_getElem? (i := 207) rfl)) (j := 13) rfl ?_
                              refine zp_lcmp (pc := 436) (tgt := 449) hx hb (zd_X6_value (436, .lcmp, 1, 0, []) (List.mem_of_getElem? (i := 208) rfl)) (zd_X6_value (437, .ifCond .gt 12, 3, 0, []) (List.mem_of_getElem? (i := 209) rfl)) rfl (fun (hc482 : 1000000000 < (v1.tmod v2)) => ?_) (fun (hc482 : ¬ (1000000000 < (v1.tmod v2))) => ?_)
                              · refine zp_ldc2 (pc := 449) hx hb hE (zd_X6_value (449, .ldc2_w 53, 3, 0, []) (List.mem_of_getElem? (i := 214) rfl)) (j := 12) rfl ?_
                                have hz : x en = none := kb (zg_bnn (fun h => hn0 h.2) (show (v1.tmod v2) = yd_v 24 v1 v2 from rfl) (by omega))
                                refine zp_lret (pc := 452) (n := (-9000000000)) hx hb hE hQ hU5 rfl (by decide) (zd_X6_value (452, .lreturn, 1, 0, []) (List.mem_of_getElem? (i := 215) rfl)) (j := 0) rfl (zp_o1 (by first | assumption | exact zp_r1 (by omega) (by omega))) ?_
                                rw [hps]
                                exact ⟨rfl, fun v hv => (by rw [hz] at hv; cases hv), fun _ => rfl⟩
                              · refine zp_load (pc := 440) hx hb (zd_X6_value (440, .lload 12, 2, 0, []) (List.mem_of_getElem? (i := 210) rfl)) rfl (j := 0) rfl ?_
                                refine zp_ldc2 (pc := 442) hx hb hE (zd_X6_value (442, .ldc2_w 91, 3, 0, []) (List.mem_of_getElem? (i := 211) rfl)) (j := 14) rfl ?_
                                refine zp_lcmp (pc := 445) (tgt := 453) hx hb (zd_X6_value (445, .lcmp, 1, 0, []) (List.mem_of_getElem? (i := 212) rfl)) (zd_X6_value (446, .ifCond .ge 7, 3, 0, []) (List.mem_of_getElem? (i := 213) rfl)) rfl (fun (hc483 : (-1000000000) ≤ (v1.tmod v2)) => ?_) (fun (hc483 : ¬ ((-1000000000) ≤ (v1.tmod v2))) => ?_)
                                · refine zp_load (pc := 453) hx hb (zd_X6_value (453, .aload_n 0, 1, 0, []) (List.mem_of_getElem? (i := 216) rfl)) rfl (j := 7) rfl ?_
                                  refine zp_getf (n := (st : Int)) (pc := 454) hx hb hE hw (zd_X6_value (454, .getfield 15, 3, 0, []) (List.mem_of_getElem? (i := 217) rfl)) (j := 5) rfl rfl rfl hp hm.1 ?_
                                  refine zp_load (pc := 457) hx hb (zd_X6_value (457, .iload 4, 2, 0, []) (List.mem_of_getElem? (i := 218) rfl)) rfl (j := 2) rfl ?_
                                  refine zp_const (pc := 459) hx hb (zd_X6_value (459, .iconst 1, 1, 0, []) (List.mem_of_getElem? (i := 219) rfl)) rfl rfl ?_
                                  refine zp_sub (n := (d : Int)) (pc := 460) hx hb (zd_X6_value (460, .isub, 1, 0, []) (List.mem_of_getElem? (i := 220) rfl)) (by omega) (zp_r0 (by omega) (by omega)) ?_
                                  refine zp_load (pc := 461) hx hb (zd_X6_value (461, .lload 12, 2, 0, []) (List.mem_of_getElem? (i := 221) rfl)) rfl (j := 0) rfl ?_
                                  refine zp_last (j := d) (pc := 463) hx hb hw heff (zd_X6_value (463, .lastore, 1, 0, []) (List.mem_of_getElem? (i := 222) rfl)) (show zp_ia 2 28 = some (64, 1, 0, (-9223372036854775808), 9223372036854775807) from rfl) qst (by omega) (by omega) rfl ?_
                                  refine zp_iinc (L' := [(5, 0, ((b : Int) + 2)), (12, 1, (v1.tmod v2)), (10, 1, v1), (4, 0, ((d : Int) + 1)), (8, 1, v2), (7, 0, (C (b + 1))), (6, 0, 10), (0, 2, (a : Int)), (1, 2, (xt9 : Int)), (2, 0, (i2 : Int)), (3, 2, (wd9 : Int))]) (n := ((b : Int) + 2)) (pc := 464) hx hb hnL (zd_X6_value (464, .iinc 5 2, 3, 0, []) (List.mem_of_getElem? (i := 223) rfl)) (j := 6) rfl (by omega) (zp_r0 (by omega) (by omega)) rfl rfl ?_
                                  refine zp_goto (tgt := 13) (pc := 467) hx hb (zd_X6_value (467, .goto (-454), 3, 0, []) (List.mem_of_getElem? (i := 224) rfl)) rfl ?_
                                  refine zp_drop (L' := [(4, 0, ((d : Int) + 1)), (5, 0, ((b : Int) + 2)), (0, 2, (a : Int)), (1, 2, (xt9 : Int)), (2, 0, (i2 : Int)), (3, 2, (wd9 : Int))]) (by simp) ?_
                                  exact kk (v1.tmod v2) _ (zg_bns (fun h => hn0 h.2) (show (v1.tmod v2) = yd_v 24 v1 v2 from rfl) (by omega) (by omega)) (zgV_s hm n1 n2 n3 n4) (fun j hj => zp_set_ne (Or.inr (by omega))) zp_set_self
                                · refine zp_ldc2 (pc := 449) hx hb hE (zd_X6_value (449, .ldc2_w 53, 3, 0, []) (List.mem_of_getElem? (i := 214) rfl)) (j := 12) rfl ?_
                                  have hz : x en = none := kb (zg_bnn (fun h => hn0 h.2) (show (v1.tmod v2) = yd_v 24 v1 v2 from rfl) (by omega))
                                  refine zp_lret (pc := 452) (n := (-9000000000)) hx hb hE hQ hU5 rfl (by decide) (zd_X6_value (452, .lreturn, 1, 0, []) (List.mem_of_getElem? (i := 215) rfl)) (j := 0) rfl (zp_o1 (by first | assumption | exact zp_r1 (by omega) (by omega))) ?_
                                  rw [hps]
                                  exact ⟨rfl, fun v hv => (by rw [hz] at hv; cases hv), fun _ => rfl⟩
                            · exfalso
                              omega
                          · exfalso
                            omega
                        · exfalso
                          omega
                    · exfalso
                      omega
                  · exfalso
                    omega
                · exfalso
                  omega
              · exfalso
                omega
  have step_11 : ∀ (b d : Nat) (v1 v2 : Int) (G : Nat → Nat → Int), b < e9 → d + 2 < 64 → zgV a xt9 cd st wd9 N C Wd G → C b = 11 → G st (2000 + d) = v1 → G st (2000 + (d + 1)) = v2 → -2147483648 ≤ v1 ∧ v1 ≤ 2147483648 → -2147483648 ≤ v2 ∧ v2 ≤ 2147483648 → (∀ (v : Int) (G' : Nat → Nat → Int), yd_bn 25 v1 v2 = some v → zgV a xt9 cd st wd9 N C Wd G' → (∀ j, j < d → G' st (2000 + j) = G st (2000 + j)) → G' st (2000 + d) = v → zp_J p l e R s m args below meth c Q w u [] 13 [(4, 0, ((d + 1 : Nat) : Int)), (5, 0, ((b + 2 : Nat) : Int)), (0, 2, (a : Int)), (1, 2, (xt9 : Int)), (2, 0, (i2 : Int)), (3, 2, (wd9 : Int))] [] u.1 G') → (yd_bn 25 v1 v2 = none → x en = none) → zp_J p l e R s m args below meth c Q w u [] 13 [(4, 0, ((d + 2 : Nat) : Int)), (5, 0, ((b : Nat) : Int)), (0, 2, (a : Int)), (1, 2, (xt9 : Int)), (2, 0, (i2 : Int)), (3, 2, (wd9 : Int))] [] u.1 G := by
    clear step_l1 step_l2 exitv step_nt step_b4 step_b5 step_6 step_7 step_8 step_9 step_10
    intro b d v1 v2 G hb2 hd hm o1 e1 e2 bd1 bd2 kk kb
    have ho1 : G cd (2000 + b) = 11 := (hm.2.2.2.1 b).trans o1
    refine zp_drop (L' := [(4, 0, ((d : Int) + 2)), (5, 0, (b : Int)), (0, 2, (a : Int)), (1, 2, (xt9 : Int)), (2, 0, (i2 : Int)), (3, 2, (wd9 : Int))]) (by simp <;> omega) ?_
    have h99 : zk_rg 1 (-9000000000) := ⟨by decide, by decide⟩
    have hl13 := hm.2.2.1
    refine zp_load (pc := 13) hx hb (zd_X6_value (13, .iload 5, 2, 0, []) (List.mem_of_getElem? (i := 9) rfl)) rfl (j := 1) rfl ?_
    refine zp_if (pc := 15) (tgt := 470) hx hb (zd_X6_value (15, .ifCond .lt 455, 3, 0, []) (List.mem_of_getElem? (i := 10) rfl)) rfl (fun (hc484 : (b : Int) < 0) => ?_) (fun (hc484 : ¬ ((b : Int) < 0)) => ?_)
    · exfalso
      omega
    · refine zp_load (pc := 18) hx hb (zd_X6_value (18, .iload 5, 2, 0, []) (List.mem_of_getElem? (i := 11) rfl)) rfl (j := 1) rfl ?_
      refine zp_const (pc := 20) hx hb (zd_X6_value (20, .iconst 1, 1, 0, []) (List.mem_of_getElem? (i := 12) rfl)) rfl rfl ?_
      refine zp_add (n := ((b : Int) + 1)) (pc := 21) hx hb (zd_X6_value (21, .iadd, 1, 0, []) (List.mem_of_getElem? (i := 13) rfl)) (by omega) (zp_r0 (by omega) (by omega)) ?_
      refine zp_load (pc := 22) hx hb (zd_X6_value (22, .aload_n 1, 1, 0, []) (List.mem_of_getElem? (i := 14) rfl)) rfl (j := 3) rfl ?_
      refine zp_getf (n := (cd : Int)) (pc := 23) hx hb hE hw (zd_X6_value (23, .getfield 86, 3, 0, []) (List.mem_of_getElem? (i := 15) rfl)) (j := 10) rfl rfl rfl qxt hm.2.1 ?_
      refine zp_alenN (N := N) (pc := 26) hx hb hw (zd_X6_value (26, .arraylength, 1, 0, []) (List.mem_of_getElem? (i := 16) rfl)) qcd ⟨_, rfl, by decide, by decide⟩ hm.2.2.1 ?_
      refine zp_icmp (pc := 27) (tgt := 470) hx hb (zd_X6_value (27, .if_icmp .ge 443, 3, 0, []) (List.mem_of_getElem? (i := 17) rfl)) rfl (fun (hc485 : (N : Int) ≤ ((b : Int) + 1)) => ?_) (fun (hc485 : ¬ ((N : Int) ≤ ((b : Int) + 1))) => ?_)
      · exfalso
        omega
      · refine zp_load (pc := 30) hx hb (zd_X6_value (30, .iload 4, 2, 0, []) (List.mem_of_getElem? (i := 18) rfl)) rfl (j := 0) rfl ?_
        refine zp_const (pc := 32) hx hb (zd_X6_value (32, .bipush 64, 2, 0, []) (List.mem_of_getElem? (i := 19) rfl)) rfl rfl ?_
        refine zp_icmp (pc := 34) (tgt := 470) hx hb (zd_X6_value (34, .if_icmp .ge 436, 3, 0, []) (List.mem_of_getElem? (i := 20) rfl)) rfl (fun (hc486 : 64 ≤ ((d : Int) + 2)) => ?_) (fun (hc486 : ¬ (64 ≤ ((d : Int) + 2))) => ?_)
        · exfalso
          omega
        · refine zp_load (pc := 37) hx hb (zd_X6_value (37, .aload_n 1, 1, 0, []) (List.mem_of_getElem? (i := 21) rfl)) rfl (j := 3) rfl ?_
          refine zp_getf (n := (cd : Int)) (pc := 38) hx hb hE hw (zd_X6_value (38, .getfield 86, 3, 0, []) (List.mem_of_getElem? (i := 22) rfl)) (j := 10) rfl rfl rfl qxt hm.2.1 ?_
          refine zp_load (pc := 41) hx hb (zd_X6_value (41, .iload 5, 2, 0, []) (List.mem_of_getElem? (i := 23) rfl)) rfl (j := 1) rfl ?_
          refine zp_ialdN (j := b) (v := 11) (N := N) (pc := 43) hx hb hw (zd_X6_value (43, .iaload, 1, 0, []) (List.mem_of_getElem? (i := 24) rfl)) (show zp_ia 1 35 = some (872, 0, 0, (-1000000), 1000000) from rfl) ⟨_, rfl, by decide⟩ hm.2.2.1 qcd (by omega) (by omega) ho1 (fun hk487 => ?_)
          have hk487b := zp_int hk487
          refine zp_store (L' := [(6, 0, 11), (4, 0, ((d : Int) + 2)), (5, 0, (b : Int)), (0, 2, (a : Int)), (1, 2, (xt9 : Int)), (2, 0, (i2 : Int)), (3, 2, (wd9 : Int))]) (pc := 44) hx hb hnL (zd_X6_value (44, .istore 6, 2, 0, []) (List.mem_of_getElem? (i := 25) rfl)) rfl rfl rfl ?_
          refine zp_load (pc := 46) hx hb (zd_X6_value (46, .aload_n 1, 1, 0, []) (List.mem_of_getElem? (i := 26) rfl)) rfl (j := 4) rfl ?_
          refine zp_getf (n := (cd : Int)) (pc := 47) hx hb hE hw (zd_X6_value (47, .getfield 86, 3, 0, []) (List.mem_of_getElem? (i := 27) rfl)) (j := 10) rfl rfl rfl qxt hm.2.1 ?_
          refine zp_load (pc := 50) hx hb (zd_X6_value (50, .iload 5, 2, 0, []) (List.mem_of_getElem? (i := 28) rfl)) rfl (j := 2) rfl ?_
          refine zp_const (pc := 52) hx hb (zd_X6_value (52, .iconst 1, 1, 0, []) (List.mem_of_getElem? (i := 29) rfl)) rfl rfl ?_
          refine zp_add (n := ((b : Int) + 1)) (pc := 53) hx hb (zd_X6_value (53, .iadd, 1, 0, []) (List.mem_of_getElem? (i := 30) rfl)) (by omega) (zp_r0 (by omega) (by omega)) ?_
          refine zp_ialdN (j := (b + 1)) (v := (C (b + 1))) (N := N) (pc := 54) hx hb hw (zd_X6_value (54, .iaload, 1, 0, []) (List.mem_of_getElem? (i := 31) rfl)) (show zp_ia 1 35 = some (872, 0, 0, (-1000000), 1000000) from rfl) ⟨_, rfl, by decide⟩ hm.2.2.1 qcd (by omega) (by omega) (hm.2.2.2.1 (b + 1)) (fun hk488 => ?_)
          have hk488b := zp_int hk488
          refine zp_store (L' := [(7, 0, (C (b + 1))), (6, 0, 11), (4, 0, ((d : Int) + 2)), (5, 0, (b : Int)), (0, 2, (a : Int)), (1, 2, (xt9 : Int)), (2, 0, (i2 : Int)), (3, 2, (wd9 : Int))]) (pc := 55) hx hb hnL (zd_X6_value (55, .istore 7, 2, 0, []) (List.mem_of_getElem? (i := 32) rfl)) rfl rfl rfl ?_
          refine zp_load (pc := 57) hx hb (zd_X6_value (57, .iload 6, 2, 0, []) (List.mem_of_getElem? (i := 33) rfl)) rfl (j := 1) rfl ?_
          refine zp_const (pc := 59) hx hb (zd_X6_value (59, .iconst 1, 1, 0, []) (List.mem_of_getElem? (i := 34) rfl)) rfl rfl ?_
          refine zp_icmp (pc := 60) (tgt := 69) hx hb (zd_X6_value (60, .if_icmp .eq 9, 3, 0, []) (List.mem_of_getElem? (i := 35) rfl)) rfl (fun (hc489 : 11 = 1) => ?_) (fun (hc489 : ¬ (11 = 1)) => ?_)
          · exfalso
            omega
          · refine zp_load (pc := 63) hx hb (zd_X6_value (63, .iload 6, 2, 0, []) (List.mem_of_getElem? (i := 36) rfl)) rfl (j := 1) rfl ?_
            refine zp_const (pc := 65) hx hb (zd_X6_value (65, .iconst 2, 1, 0, []) (List.mem_of_getElem? (i := 37) rfl)) rfl rfl ?_
            refine zp_icmp (pc := 66) (tgt := 123) hx hb (zd_X6_value (66, .if_icmp .ne 57, 3, 0, []) (List.mem_of_getElem? (i := 38) rfl)) rfl (fun (hc490 : ¬ 11 = 2) => ?_) (fun (hc490 : ¬ (¬ 11 = 2)) => ?_)
            · refine zp_load (pc := 123) hx hb (zd_X6_value (123, .iload 4, 2, 0, []) (List.mem_of_getElem? (i := 67) rfl)) rfl (j := 2) rfl ?_
              refine zp_const (pc := 125) hx hb (zd_X6_value (125, .iconst 1, 1, 0, []) (List.mem_of_getElem? (i := 68) rfl)) rfl rfl ?_
              refine zp_icmp (pc := 126) (tgt := 133) hx hb (zd_X6_value (126, .if_icmp .ge 7, 3, 0, []) (List.mem_of_getElem? (i := 69) rfl)) rfl (fun (hc491 : 1 ≤ ((d : Int) + 2)) => ?_) (fun (hc491 : ¬ (1 ≤ ((d : Int) + 2))) => ?_)
              · refine zp_load (pc := 133) hx hb (zd_X6_value (133, .aload_n 0, 1, 0, []) (List.mem_of_getElem? (i := 72) rfl)) rfl (j := 4) rfl ?_
                refine zp_getf (n := (st : Int)) (pc := 134) hx hb hE hw (zd_X6_value (134, .getfield 15, 3, 0, []) (List.mem_of_getElem? (i := 73) rfl)) (j := 5) rfl rfl rfl hp hm.1 ?_
                refine zp_load (pc := 137) hx hb (zd_X6_value (137, .iload 4, 2, 0, []) (List.mem_of_getElem? (i := 74) rfl)) rfl (j := 2) rfl ?_
                refine zp_const (pc := 139) hx hb (zd_X6_value (139, .iconst 1, 1, 0, []) (List.mem_of_getElem? (i := 75) rfl)) rfl rfl ?_
                refine zp_sub (n := ((d : Int) + 1)) (pc := 140) hx hb (zd_X6_value (140, .isub, 1, 0, []) (List.mem_of_getElem? (i := 76) rfl)) (by omega) (zp_r0 (by omega) (by omega)) ?_
                refine zp_lald (j := (d + 1)) (v := v2) (pc := 141) hx hb hw (zd_X6_value (141, .laload, 1, 0, []) (List.mem_of_getElem? (i := 77) rfl)) (show zp_ia 2 28 = some (64, 1, 0, (-9223372036854775808), 9223372036854775807) from rfl) qst (by omega) (by omega) e2 ?_
                refine zp_store (L' := [(8, 1, v2), (7, 0, (C (b + 1))), (6, 0, 11), (4, 0, ((d : Int) + 2)), (5, 0, (b : Int)), (0, 2, (a : Int)), (1, 2, (xt9 : Int)), (2, 0, (i2 : Int)), (3, 2, (wd9 : Int))]) (pc := 142) hx hb hnL (zd_X6_value (142, .lstore 8, 2, 0, []) (List.mem_of_getElem? (i := 78) rfl)) rfl rfl rfl ?_
                refine zp_load (pc := 144) hx hb (zd_X6_value (144, .iload 6, 2, 0, []) (List.mem_of_getElem? (i := 79) rfl)) rfl (j := 2) rfl ?_
                refine zp_if (pc := 146) (tgt := 152) hx hb (zd_X6_value (146, .ifCond .ne 6, 3, 0, []) (List.mem_of_getElem? (i := 80) rfl)) rfl (fun (hc493 : ¬ 11 = 0) => ?_) (fun (hc493 : ¬ (¬ 11 = 0)) => ?_)
                · refine zp_load (pc := 152) hx hb (zd_X6_value (152, .iload 6, 2, 0, []) (List.mem_of_getElem? (i := 83) rfl)) rfl (j := 2) rfl ?_
                  refine zp_const (pc := 154) hx hb (zd_X6_value (154, .iconst 3, 1, 0, []) (List.mem_of_getElem? (i := 84) rfl)) rfl rfl ?_
                  refine zp_icmp (pc := 155) (tgt := 174) hx hb (zd_X6_value (155, .if_icmp .ne 19, 3, 0, []) (List.mem_of_getElem? (i := 85) rfl)) rfl (fun (hc494 : ¬ 11 = 3) => ?_) (fun (hc494 : ¬ (¬ 11 = 3)) => ?_)
                  · refine zp_load (pc := 174) hx hb (zd_X6_value (174, .iload 6, 2, 0, []) (List.mem_of_getElem? (i := 96) rfl)) rfl (j := 2) rfl ?_
                    refine zp_const (pc := 176) hx hb (zd_X6_value (176, .iconst 4, 1, 0, []) (List.mem_of_getElem? (i := 97) rfl)) rfl rfl ?_
                    refine zp_icmp (pc := 177) (tgt := 186) hx hb (zd_X6_value (177, .if_icmp .eq 9, 3, 0, []) (List.mem_of_getElem? (i := 98) rfl)) rfl (fun (hc495 : 11 = 4) => ?_) (fun (hc495 : ¬ (11 = 4)) => ?_)
                    · exfalso
                      omega
                    · refine zp_load (pc := 180) hx hb (zd_X6_value (180, .iload 6, 2, 0, []) (List.mem_of_getElem? (i := 99) rfl)) rfl (j := 2) rfl ?_
                      refine zp_const (pc := 182) hx hb (zd_X6_value (182, .iconst 5, 1, 0, []) (List.mem_of_getElem? (i := 100) rfl)) rfl rfl ?_
                      refine zp_icmp (pc := 183) (tgt := 236) hx hb (zd_X6_value (183, .if_icmp .ne 53, 3, 0, []) (List.mem_of_getElem? (i := 101) rfl)) rfl (fun (hc496 : ¬ 11 = 5) => ?_) (fun (hc496 : ¬ (¬ 11 = 5)) => ?_)
                      · refine zp_load (pc := 236) hx hb (zd_X6_value (236, .iload 4, 2, 0, []) (List.mem_of_getElem? (i := 128) rfl)) rfl (j := 3) rfl ?_
                        refine zp_const (pc := 238) hx hb (zd_X6_value (238, .iconst 2, 1, 0, []) (List.mem_of_getElem? (i := 129) rfl)) rfl rfl ?_
                        refine zp_icmp (pc := 239) (tgt := 246) hx hb (zd_X6_value (239, .if_icmp .ge 7, 3, 0, []) (List.mem_of_getElem? (i := 130) rfl)) rfl (fun (hc497 : 2 ≤ ((d : Int) + 2)) => ?_) (fun (hc497 : ¬ (2 ≤ ((d : Int) + 2))) => ?_)
                        · refine zp_iinc (L' := [(4, 0, ((d : Int) + 1)), (8, 1, v2), (7, 0, (C (b + 1))), (6, 0, 11), (5, 0, (b : Int)), (0, 2, (a : Int)), (1, 2, (xt9 : Int)), (2, 0, (i2 : Int)), (3, 2, (wd9 : Int))]) (n := ((d : Int) + 1)) (pc := 246) hx hb hnL (zd_X6_value (246, .iinc 4 (-1), 3, 0, []) (List.mem_of_getElem? (i := 133) rfl)) (j := 3) rfl (by omega) (zp_r0 (by omega) (by omega)) rfl rfl ?_
                          refine zp_load (pc := 249) hx hb (zd_X6_value (249, .aload_n 0, 1, 0, []) (List.mem_of_getElem? (i := 134) rfl)) rfl (j := 5) rfl ?_
                          refine zp_getf (n := (st : Int)) (pc := 250) hx hb hE hw (zd_X6_value (250, .getfield 15, 3, 0, []) (List.mem_of_getElem? (i := 135) rfl)) (j := 5) rfl rfl rfl hp hm.1 ?_
                          refine zp_load (pc := 253) hx hb (zd_X6_value (253, .iload 4, 2, 0, []) (List.mem_of_getElem? (i := 136) rfl)) rfl (j := 0) rfl ?_
                          refine zp_const (pc := 255) hx hb (zd_X6_value (255, .iconst 1, 1, 0, []) (List.mem_of_getElem? (i := 137) rfl)) rfl rfl ?_
                          refine zp_sub (n := (d : Int)) (pc := 256) hx hb (zd_X6_value (256, .isub, 1, 0, []) (List.mem_of_getElem? (i := 138) rfl)) (by omega) (zp_r0 (by omega) (by omega)) ?_
                          refine zp_lald (j := d) (v := v1) (pc := 257) hx hb hw (zd_X6_value (257, .laload, 1, 0, []) (List.mem_of_getElem? (i := 139) rfl)) (show zp_ia 2 28 = some (64, 1, 0, (-9223372036854775808), 9223372036854775807) from rfl) qst (by omega) (by omega) e1 ?_
                          refine zp_store (L' := [(10, 1, v1), (4, 0, ((d : Int) + 1)), (8, 1, v2), (7, 0, (C (b + 1))), (6, 0, 11), (5, 0, (b : Int)), (0, 2, (a : Int)), (1, 2, (xt9 : Int)), (2, 0, (i2 : Int)), (3, 2, (wd9 : Int))]) (pc := 258) hx hb hnL (zd_X6_value (258, .lstore 10, 2, 0, []) (List.mem_of_getElem? (i := 140) rfl)) rfl rfl rfl ?_
                          refine zp_load (pc := 260) hx hb (zd_X6_value (260, .iload 6, 2, 0, []) (List.mem_of_getElem? (i := 141) rfl)) rfl (j := 4) rfl ?_
                          refine zp_tin (tgt := 380) (off := 118) (pc := 262) hx hb (zd_X6_value (262, .tableswitch 154 6 12 #[42, 52, 62, 72, 95, 118, 136], 42, 0, []) (List.mem_of_getElem? (i := 142) rfl)) (by decide) (by decide) (by decide) rfl ?_
                          refine zp_load (pc := 380) hx hb (zd_X6_value (380, .lload 10, 2, 0, []) (List.mem_of_getElem? (i := 180) rfl)) rfl (j := 0) rfl ?_
                          refine zp_load (pc := 382) hx hb (zd_X6_value (382, .lload 8, 2, 0, []) (List.mem_of_getElem? (i := 181) rfl)) rfl (j := 2) rfl ?_
                          refine zp_lcmp (pc := 384) (tgt := 392) hx hb (zd_X6_value (384, .lcmp, 1, 0, []) (List.mem_of_getElem? (i := 182) rfl)) (zd_X6_value (385, .ifCond .ge 7, 3, 0, []) (List.mem_of_getElem? (i := 183) rfl)) rfl (fun (hc499 : v2 ≤ v1) => ?_) (fun (hc499 : ¬ (v2 ≤ v1)) => ?_)
                          · refine zp_const (pc := 392) hx hb (zd_X6_value (392, .lconst 0, 1, 0, []) (List.mem_of_getElem? (i := 186) rfl)) rfl rfl ?_
                            refine zp_store (L' := [(12, 1, 0), (10, 1, v1), (4, 0, ((d : Int) + 1)), (8, 1, v2), (7, 0, (C (b + 1))), (6, 0, 11), (5, 0, (b : Int)), (0, 2, (a : Int)), (1, 2, (xt9 : Int)), (2, 0, (i2 : Int)), (3, 2, (wd9 : Int))]) (pc := 393) hx hb hnL (zd_X6_value (393, .lstore 12, 2, 0, []) (List.mem_of_getElem? (i := 187) rfl)) rfl rfl rfl ?_
                            refine zp_goto (tgt := 431) (pc := 395) hx hb (zd_X6_value (395, .goto 36, 3, 0, []) (List.mem_of_getElem? (i := 188) rfl)) rfl ?_
                            refine zp_load (pc := 431) hx hb (zd_X6_value (431, .lload 12, 2, 0, []) (List.mem_of_getElem? (i := 206) rfl)) rfl (j := 0) rfl ?_
                            refine zp_ldc2 (pc := 433) hx hb hE (zd_X6_value (433, .ldc2_w 89, 3, 0, []) (List.mem_of_getElem? (i := 207) rfl)) (j := 13) rfl ?_
                            refine zp_lcmp (pc := 436) (tgt := 449) hx hb (zd_X6_value (436, .lcmp, 1, 0, []) (List.mem_of_getElem? (i := 208) rfl)) (zd_X6_value (437, .ifCond .gt 12, 3, 0, []) (List.mem_of_getElem? (i := 209) rfl)) rfl (fun (hc500 : 1000000000 < 0) => ?_) (fun (hc500 : ¬ (1000000000 < 0)) => ?_)
                            · exfalso
                              omega
                            · refine zp_load (pc := 440) hx hb (zd_X6_value (440, .lload 12, 2, 0, []) (List.mem_of_getElem? (i := 210) rfl)) rfl (j := 0) rfl ?_
                              refine zp_ldc2 (pc := 442) hx hb hE (zd_X6_value (442, .ldc2_w 91, 3, 0, []) (List.mem_of_getElem? (i := 211) rfl)) (j := 14) rfl ?_
                              refine zp_lcmp (pc := 445) (tgt := 453) hx hb (zd_X6_value (445, .lcmp, 1, 0, []) (List.mem_of_getElem? (i := 212) rfl)) (zd_X6_value (446, .ifCond .ge 7, 3, 0, []) (List.mem_of_getElem? (i := 213) rfl)) rfl (fun (hc501 : (-1000000000) ≤ 0) => ?_) (fun (hc501 : ¬ ((-1000000000) ≤ 0)) => ?_)
                              · refine zp_load (pc := 453) hx hb (zd_X6_value (453, .aload_n 0, 1, 0, []) (List.mem_of_getElem? (i := 216) rfl)) rfl (j := 7) rfl ?_
                                refine zp_getf (n := (st : Int)) (pc := 454) hx hb hE hw (zd_X6_value (454, .getfield 15, 3, 0, []) (List.mem_of_getElem? (i := 217) rfl)) (j := 5) rfl rfl rfl hp hm.1 ?_
                                refine zp_load (pc := 457) hx hb (zd_X6_value (457, .iload 4, 2, 0, []) (List.mem_of_getElem? (i := 218) rfl)) rfl (j := 2) rfl ?_
                                refine zp_const (pc := 459) hx hb (zd_X6_value (459, .iconst 1, 1, 0, []) (List.mem_of_getElem? (i := 219) rfl)) rfl rfl ?_
                                refine zp_sub (n := (d : Int)) (pc := 460) hx hb (zd_X6_value (460, .isub, 1, 0, []) (List.mem_of_getElem? (i := 220) rfl)) (by omega) (zp_r0 (by omega) (by omega)) ?_
                                refine zp_load (pc := 461) hx hb (zd_X6_value (461, .lload 12, 2, 0, []) (List.mem_of_getElem? (i := 221) rfl)) rfl (j := 0) rfl ?_
                                refine zp_last (j := d) (pc := 463) hx hb hw heff (zd_X6_value (463, .lastore, 1, 0, []) (List.mem_of_getElem? (i := 222) rfl)) (show zp_ia 2 28 = some (64, 1, 0, (-9223372036854775808), 9223372036854775807) from rfl) qst (by omega) (by omega) rfl ?_
                                refine zp_iinc (L' := [(5, 0, ((b : Int) + 2)), (12, 1, 0), (10, 1, v1), (4, 0, ((d : Int) + 1)), (8, 1, v2), (7, 0, (C (b + 1))), (6, 0, 11), (0, 2, (a : Int)), (1, 2, (xt9 : Int)), (2, 0, (i2 : Int)), (3, 2, (wd9 : Int))]) (n := ((b : Int) + 2)) (pc := 464) hx hb hnL (zd_X6_value (464, .iinc 5 2, 3, 0, []) (List.mem_of_getElem? (i := 223) rfl)) (j := 6) rfl (by omega) (zp_r0 (by omega) (by omega)) rfl rfl ?_
                                refine zp_goto (tgt := 13) (pc := 467) hx hb (zd_X6_value (467, .goto (-454), 3, 0, []) (List.mem_of_getElem? (i := 224) rfl)) rfl ?_
                                refine zp_drop (L' := [(4, 0, ((d : Int) + 1)), (5, 0, ((b : Int) + 2)), (0, 2, (a : Int)), (1, 2, (xt9 : Int)), (2, 0, (i2 : Int)), (3, 2, (wd9 : Int))]) (by simp) ?_
                                exact kk 0 _ (zg_bns (fun h => absurd h.1 (by decide)) (by first | exact (zg_v25 v1 v2).1 (by omega) | exact (zg_v25 v1 v2).2 (by omega)) (by omega) (by omega)) (zgV_s hm n1 n2 n3 n4) (fun j hj => zp_set_ne (Or.inr (by omega))) zp_set_self
                              · exfalso
                                omega
                          · refine zp_const (pc := 388) hx hb (zd_X6_value (388, .lconst 1, 1, 0, []) (List.mem_of_getElem? (i := 184) rfl)) rfl rfl ?_
                            refine zp_goto (tgt := 393) (pc := 389) hx hb (zd_X6_value (389, .goto 4, 3, 0, []) (List.mem_of_getElem? (i := 185) rfl)) rfl ?_
                            refine zp_store (L' := [(12, 1, 1), (10, 1, v1), (4, 0, ((d : Int) + 1)), (8, 1, v2), (7, 0, (C (b + 1))), (6, 0, 11), (5, 0, (b : Int)), (0, 2, (a : Int)), (1, 2, (xt9 : Int)), (2, 0, (i2 : Int)), (3, 2, (wd9 : Int))]) (pc := 393) hx hb hnL (zd_X6_value (393, .lstore 12, 2, 0, []) (List.mem_of_getElem? (i := 187) rfl)) rfl rfl rfl ?_
                            refine zp_goto (tgt := 431) (pc := 395) hx hb (zd_X6_value (395, .goto 36, 3, 0, []) (List.mem_of_getElem? (i := 188) rfl)) rfl ?_
                            refine zp_load (pc := 431) hx hb (zd_X6_value (431, .lload 12, 2, 0, []) (List.mem_of_getElem? (i := 206) rfl)) rfl (j := 0) rfl ?_
                            refine zp_ldc2 (pc := 433) hx hb hE (zd_X6_value (433, .ldc2_w 89, 3, 0, []) (List.mem_of_getElem? (i := 207) rfl)) (j := 13) rfl ?_
                            refine zp_lcmp (pc := 436) (tgt := 449) hx hb (zd_X6_value (436, .lcmp, 1, 0, []) (List.mem_of_getElem? (i := 208) rfl)) (zd_X6_value (437, .ifCond .gt 12, 3, 0, []) (List.mem_of_getElem? (i := 209) rfl)) rfl (fun (hc502 : 1000000000 < 1) => ?_) (fun (hc502 : ¬ (1000000000 < 1)) => ?_)
                            · exfalso
                              omega
                            · refine zp_load (pc := 440) hx hb (zd_X6_value (440, .lload 12, 2, 0, []) (List.mem_of_getElem? (i := 210) rfl)) rfl (j := 0) rfl ?_
                              refine zp_ldc2 (pc := 442) hx hb hE (zd_X6_value (442, .ldc2_w 91, 3, 0, []) (List.mem_of_getElem? (i := 211) rfl)) (j := 14) rfl ?_
                              refine zp_lcmp (pc := 445) (tgt := 453) hx hb (zd_X6_value (445, .lcmp, 1, 0, []) (List.mem_of_getElem? (i := 212) rfl)) (zd_X6_value (446, .ifCond .ge 7, 3, 0, []) (List.mem_of_getElem? (i := 213) rfl)) rfl (fun (hc503 : (-1000000000) ≤ 1) => ?_) (fun (hc503 : ¬ ((-1000000000) ≤ 1)) => ?_)
                              · refine zp_load (pc := 453) hx hb (zd_X6_value (453, .aload_n 0, 1, 0, []) (List.mem_of_getElem? (i := 216) rfl)) rfl (j := 7) rfl ?_
                                refine zp_getf (n := (st : Int)) (pc := 454) hx hb hE hw (zd_X6_value (454, .getfield 15, 3, 0, []) (List.mem_of_getElem? (i := 217) rfl)) (j := 5) rfl rfl rfl hp hm.1 ?_
                                refine zp_load (pc := 457) hx hb (zd_X6_value (457, .iload 4, 2, 0, []) (List.mem_of_getElem? (i := 218) rfl)) rfl (j := 2) rfl ?_
                                refine zp_const (pc := 459) hx hb (zd_X6_value (459, .iconst 1, 1, 0, []) (List.mem_of_getElem? (i := 219) rfl)) rfl rfl ?_
                                refine zp_sub (n := (d : Int)) (pc := 460) hx hb (zd_X6_value (460, .isub, 1, 0, []) (List.mem_of_getElem? (i := 220) rfl)) (by omega) (zp_r0 (by omega) (by omega)) ?_
                                refine zp_load (pc := 461) hx hb (zd_X6_value (461, .lload 12, 2, 0, []) (List.mem_of_getElem? (i := 221) rfl)) rfl (j := 0) rfl ?_
                                refine zp_last (j := d) (pc := 463) hx hb hw heff (zd_X6_value (463, .lastore, 1, 0, []) (List.mem_of_getElem? (i := 222) rfl)) (show zp_ia 2 28 = some (64, 1, 0, (-9223372036854775808), 9223372036854775807) from rfl) qst (by omega) (by omega) rfl ?_
                                refine zp_iinc (L' := [(5, 0, ((b : Int) + 2)), (12, 1, 1), (10, 1, v1), (4, 0, ((d : Int) + 1)), (8, 1, v2), (7, 0, (C (b + 1))), (6, 0, 11), (0, 2, (a : Int)), (1, 2, (xt9 : Int)), (2, 0, (i2 : Int)), (3, 2, (wd9 : Int))]) (n := ((b : Int) + 2)) (pc := 464) hx hb hnL (zd_X6_value (464, .iinc 5 2, 3, 0, []) (List.mem_of_getElem? (i := 223) rfl)) (j := 6) rfl (by omega) (zp_r0 (by omega) (by omega)) rfl rfl ?_
                                refine zp_goto (tgt := 13) (pc := 467) hx hb (zd_X6_value (467, .goto (-454), 3, 0, []) (List.mem_of_getElem? (i := 224) rfl)) rfl ?_
                                refine zp_drop (L' := [(4, 0, ((d : Int) + 1)), (5, 0, ((b : Int) + 2)), (0, 2, (a : Int)), (1, 2, (xt9 : Int)), (2, 0, (i2 : Int)), (3, 2, (wd9 : Int))]) (by simp) ?_
                                exact kk 1 _ (zg_bns (fun h => absurd h.1 (by decide)) (by first | exact (zg_v25 v1 v2).1 (by omega) | exact (zg_v25 v1 v2).2 (by omega)) (by omega) (by omega)) (zgV_s hm n1 n2 n3 n4) (fun j hj => zp_set_ne (Or.inr (by omega))) zp_set_self
                              · exfalso
                                omega
                        · exfalso
                          omega
                      · exfalso
                        omega
                  · exfalso
                    omega
                · exfalso
                  omega
              · exfalso
                omega
            · exfalso
              omega
  have step_12 : ∀ (b d : Nat) (v1 v2 : Int) (G : Nat → Nat → Int), b < e9 → d + 2 < 64 → zgV a xt9 cd st wd9 N C Wd G → C b = 12 → G st (2000 + d) = v1 → G st (2000 + (d + 1)) = v2 → -2147483648 ≤ v1 ∧ v1 ≤ 2147483648 → -2147483648 ≤ v2 ∧ v2 ≤ 2147483648 → (∀ (v : Int) (G' : Nat → Nat → Int), yd_bn 26 v1 v2 = some v → zgV a xt9 cd st wd9 N C Wd G' → (∀ j, j < d → G' st (2000 + j) = G st (2000 + j)) → G' st (2000 + d) = v → zp_J p l e R s m args below meth c Q w u [] 13 [(4, 0, ((d + 1 : Nat) : Int)), (5, 0, ((b + 2 : Nat) : Int)), (0, 2, (a : Int)), (1, 2, (xt9 : Int)), (2, 0, (i2 : Int)), (3, 2, (wd9 : Int))] [] u.1 G') → (yd_bn 26 v1 v2 = none → x en = none) → zp_J p l e R s m args below meth c Q w u [] 13 [(4, 0, ((d + 2 : Nat) : Int)), (5, 0, ((b : Nat) : Int)), (0, 2, (a : Int)), (1, 2, (xt9 : Int)), (2, 0, (i2 : Int)), (3, 2, (wd9 : Int))] [] u.1 G := by
    clear step_l1 step_l2 exitv step_nt step_b4 step_b5 step_6 step_7 step_8 step_9 step_10 step_11
    intro b d v1 v2 G hb2 hd hm o1 e1 e2 bd1 bd2 kk kb
    have ho1 : G cd (2000 + b) = 12 := (hm.2.2.2.1 b).trans o1
    refine zp_drop (L' := [(4, 0, ((d : Int) + 2)), (5, 0, (b : Int)), (0, 2, (a : Int)), (1, 2, (xt9 : Int)), (2, 0, (i2 : Int)), (3, 2, (wd9 : Int))]) (by simp <;> omega) ?_
    have h99 : zk_rg 1 (-9000000000) := ⟨by decide, by decide⟩
    have hl13 := hm.2.2.1
    refine zp_load (pc := 13) hx hb (zd_X6_value (13, .iload 5, 2, 0, []) (List.mem_of_getElem? (i := 9) rfl)) rfl (j := 1) rfl ?_
    refine zp_if (pc := 15) (tgt := 470) hx hb (zd_X6_value (15, .ifCond .lt 455, 3, 0, []) (List.mem_of_getElem? (i := 10) rfl)) rfl (fun (hc504 : (b : Int) < 0) => ?_) (fun (hc504 : ¬ ((b : Int) < 0)) => ?_)
    · exfalso
      omega
    · refine zp_load (pc := 18) hx hb (zd_X6_value (18, .iload 5, 2, 0, []) (List.mem_of_getElem? (i := 11) rfl)) rfl (j := 1) rfl ?_
      refine zp_const (pc := 20) hx hb (zd_X6_value (20, .iconst 1, 1, 0, []) (List.mem_of_getElem? (i := 12) rfl)) rfl rfl ?_
      refine zp_add (n := ((b : Int) + 1)) (pc := 21) hx hb (zd_X6_value (21, .iadd, 1, 0, []) (List.mem_of_getElem? (i := 13) rfl)) (by omega) (zp_r0 (by omega) (by omega)) ?_
      refine zp_load (pc := 22) hx hb (zd_X6_value (22, .aload_n 1, 1, 0, []) (List.mem_of_getElem? (i := 14) rfl)) rfl (j := 3) rfl ?_
      refine zp_getf (n := (cd : Int)) (pc := 23) hx hb hE hw (zd_X6_value (23, .getfield 86, 3, 0, []) (List.mem_of_getElem? (i := 15) rfl)) (j := 10) rfl rfl rfl qxt hm.2.1 ?_
      refine zp_alenN (N := N) (pc := 26) hx hb hw (zd_X6_value (26, .arraylength, 1, 0, []) (List.mem_of_getElem? (i := 16) rfl)) qcd ⟨_, rfl, by decide, by decide⟩ hm.2.2.1 ?_
      refine zp_icmp (pc := 27) (tgt := 470) hx hb (zd_X6_value (27, .if_icmp .ge 443, 3, 0, []) (List.mem_of_getElem? (i := 17) rfl)) rfl (fun (hc505 : (N : Int) ≤ ((b : Int) + 1)) => ?_) (fun (hc505 : ¬ ((N : Int) ≤ ((b : Int) + 1))) => ?_)
      · exfalso
        omega
      · refine zp_load (pc := 30) hx hb (zd_X6_value (30, .iload 4, 2, 0, []) (List.mem_of_getElem? (i := 18) rfl)) rfl (j := 0) rfl ?_
        refine zp_const (pc := 32) hx hb (zd_X6_value (32, .bipush 64, 2, 0, []) (List.mem_of_getElem? (i := 19) rfl)) rfl rfl ?_
        refine zp_icmp (pc := 34) (tgt := 470) hx hb (zd_X6_value (34, .if_icmp .ge 436, 3, 0, []) (List.mem_of_getElem? (i := 20) rfl)) rfl (fun (hc506 : 64 ≤ ((d : Int) + 2)) => ?_) (fun (hc506 : ¬ (64 ≤ ((d : Int) + 2))) => ?_)
        · exfalso
          omega
        · refine zp_load (pc := 37) hx hb (zd_X6_value (37, .aload_n 1, 1, 0, []) (List.mem_of_getElem? (i := 21) rfl)) rfl (j := 3) rfl ?_
          refine zp_getf (n := (cd : Int)) (pc := 38) hx hb hE hw (zd_X6_value (38, .getfield 86, 3, 0, []) (List.mem_of_getElem? (i := 22) rfl)) (j := 10) rfl rfl rfl qxt hm.2.1 ?_
          refine zp_load (pc := 41) hx hb (zd_X6_value (41, .iload 5, 2, 0, []) (List.mem_of_getElem? (i := 23) rfl)) rfl (j := 1) rfl ?_
          refine zp_ialdN (j := b) (v := 12) (N := N) (pc := 43) hx hb hw (zd_X6_value (43, .iaload, 1, 0, []) (List.mem_of_getElem? (i := 24) rfl)) (show zp_ia 1 35 = some (872, 0, 0, (-1000000), 1000000) from rfl) ⟨_, rfl, by decide⟩ hm.2.2.1 qcd (by omega) (by omega) ho1 (fun hk507 => ?_)
          have hk507b := zp_int hk507
          refine zp_store (L' := [(6, 0, 12), (4, 0, ((d : Int) + 2)), (5, 0, (b : Int)), (0, 2, (a : Int)), (1, 2, (xt9 : Int)), (2, 0, (i2 : Int)), (3, 2, (wd9 : Int))]) (pc := 44) hx hb hnL (zd_X6_value (44, .istore 6, 2, 0, []) (List.mem_of_getElem? (i := 25) rfl)) rfl rfl rfl ?_
          refine zp_load (pc := 46) hx hb (zd_X6_value (46, .aload_n 1, 1, 0, []) (List.mem_of_getElem? (i := 26) rfl)) rfl (j := 4) rfl ?_
          refine zp_getf (n := (cd : Int)) (pc := 47) hx hb hE hw (zd_X6_value (47, .getfield 86, 3, 0, []) (List.mem_of_getElem? (i := 27) rfl)) (j := 10) rfl rfl rfl qxt hm.2.1 ?_
          refine zp_load (pc := 50) hx hb (zd_X6_value (50, .iload 5, 2, 0, []) (List.mem_of_getElem? (i := 28) rfl)) rfl (j := 2) rfl ?_
          refine zp_const (pc := 52) hx hb (zd_X6_value (52, .iconst 1, 1, 0, []) (List.mem_of_getElem? (i := 29) rfl)) rfl rfl ?_
          refine zp_add (n := ((b : Int) + 1)) (pc := 53) hx hb (zd_X6_value (53, .iadd, 1, 0, []) (List.mem_of_getElem? (i := 30) rfl)) (by omega) (zp_r0 (by omega) (by omega)) ?_
          refine zp_ialdN (j := (b + 1)) (v := (C (b + 1))) (N := N) (pc := 54) hx hb hw (zd_X6_value (54, .iaload, 1, 0, []) (List.mem_of_getElem? (i := 31) rfl)) (show zp_ia 1 35 = some (872, 0, 0, (-1000000), 1000000) from rfl) ⟨_, rfl, by decide⟩ hm.2.2.1 qcd (by omega) (by omega) (hm.2.2.2.1 (b + 1)) (fun hk508 => ?_)
          have hk508b := zp_int hk508
          refine zp_store (L' := [(7, 0, (C (b + 1))), (6, 0, 12), (4, 0, ((d : Int) + 2)), (5, 0, (b : Int)), (0, 2, (a : Int)), (1, 2, (xt9 : Int)), (2, 0, (i2 : Int)), (3, 2, (wd9 : Int))]) (pc := 55) hx hb hnL (zd_X6_value (55, .istore 7, 2, 0, []) (List.mem_of_getElem? (i := 32) rfl)) rfl rfl rfl ?_
          refine zp_load (pc := 57) hx hb (zd_X6_value (57, .iload 6, 2, 0, []) (List.mem_of_getElem? (i := 33) rfl)) rfl (j := 1) rfl ?_
          refine zp_const (pc := 59) hx hb (zd_X6_value (59, .iconst 1, 1, 0, []) (List.mem_of_getElem? (i := 34) rfl)) rfl rfl ?_
          refine zp_icmp (pc := 60) (tgt := 69) hx hb (zd_X6_value (60, .if_icmp .eq 9, 3, 0, []) (List.mem_of_getElem? (i := 35) rfl)) rfl (fun (hc509 : 12 = 1) => ?_) (fun (hc509 : ¬ (12 = 1)) => ?_)
          · exfalso
            omega
          · refine zp_load (pc := 63) hx hb (zd_X6_value (63, .iload 6, 2, 0, []) (List.mem_of_getElem? (i := 36) rfl)) rfl (j := 1) rfl ?_
            refine zp_const (pc := 65) hx hb (zd_X6_value (65, .iconst 2, 1, 0, []) (List.mem_of_getElem? (i := 37) rfl)) rfl rfl ?_
            refine zp_icmp (pc := 66) (tgt := 123) hx hb (zd_X6_value (66, .if_icmp .ne 57, 3, 0, []) (List.mem_of_getElem? (i := 38) rfl)) rfl (fun (hc510 : ¬ 12 = 2) => ?_) (fun (hc510 : ¬ (¬ 12 = 2)) => ?_)
            · refine zp_load (pc := 123) hx hb (zd_X6_value (123, .iload 4, 2, 0, []) (List.mem_of_getElem? (i := 67) rfl)) rfl (j := 2) rfl ?_
              refine zp_const (pc := 125) hx hb (zd_X6_value (125, .iconst 1, 1, 0, []) (List.mem_of_getElem? (i := 68) rfl)) rfl rfl ?_
              refine zp_icmp (pc := 126) (tgt := 133) hx hb (zd_X6_value (126, .if_icmp .ge 7, 3, 0, []) (List.mem_of_getElem? (i := 69) rfl)) rfl (fun (hc511 : 1 ≤ ((d : Int) + 2)) => ?_) (fun (hc511 : ¬ (1 ≤ ((d : Int) + 2))) => ?_)
              · refine zp_load (pc := 133) hx hb (zd_X6_value (133, .aload_n 0, 1, 0, []) (List.mem_of_getElem? (i := 72) rfl)) rfl (j := 4) rfl ?_
                refine zp_getf (n := (st : Int)) (pc := 134) hx hb hE hw (zd_X6_value (134, .getfield 15, 3, 0, []) (List.mem_of_getElem? (i := 73) rfl)) (j := 5) rfl rfl rfl hp hm.1 ?_
                refine zp_load (pc := 137) hx hb (zd_X6_value (137, .iload 4, 2, 0, []) (List.mem_of_getElem? (i := 74) rfl)) rfl (j := 2) rfl ?_
                refine zp_const (pc := 139) hx hb (zd_X6_value (139, .iconst 1, 1, 0, []) (List.mem_of_getElem? (i := 75) rfl)) rfl rfl ?_
                refine zp_sub (n := ((d : Int) + 1)) (pc := 140) hx hb (zd_X6_value (140, .isub, 1, 0, []) (List.mem_of_getElem? (i := 76) rfl)) (by omega) (zp_r0 (by omega) (by omega)) ?_
                refine zp_lald (j := (d + 1)) (v := v2) (pc := 141) hx hb hw (zd_X6_value (141, .laload, 1, 0, []) (List.mem_of_getElem? (i := 77) rfl)) (show zp_ia 2 28 = some (64, 1, 0, (-9223372036854775808), 9223372036854775807) from rfl) qst (by omega) (by omega) e2 ?_
                refine zp_store (L' := [(8, 1, v2), (7, 0, (C (b + 1))), (6, 0, 12), (4, 0, ((d : Int) + 2)), (5, 0, (b : Int)), (0, 2, (a : Int)), (1, 2, (xt9 : Int)), (2, 0, (i2 : Int)), (3, 2, (wd9 : Int))]) (pc := 142) hx hb hnL (zd_X6_value (142, .lstore 8, 2, 0, []) (List.mem_of_getElem? (i := 78) rfl)) rfl rfl rfl ?_
                refine zp_load (pc := 144) hx hb (zd_X6_value (144, .iload 6, 2, 0, []) (List.mem_of_getElem? (i := 79) rfl)) rfl (j := 2) rfl ?_
                refine zp_if (pc := 146) (tgt := 152) hx hb (zd_X6_value (146, .ifCond .ne 6, 3, 0, []) (List.mem_of_getElem? (i := 80) rfl)) rfl (fun (hc513 : ¬ 12 = 0) => ?_) (fun (hc513 : ¬ (¬ 12 = 0)) => ?_)
                · refine zp_load (pc := 152) hx hb (zd_X6_value (152, .iload 6, 2, 0, []) (List.mem_of_getElem? (i := 83) rfl)) rfl (j := 2) rfl ?_
                  refine zp_const (pc := 154) hx hb (zd_X6_value (154, .iconst 3, 1, 0, []) (List.mem_of_getElem? (i := 84) rfl)) rfl rfl ?_
                  refine zp_icmp (pc := 155) (tgt := 174) hx hb (zd_X6_value (155, .if_icmp .ne 19, 3, 0, []) (List.mem_of_getElem? (i := 85) rfl)) rfl (fun (hc514 : ¬ 12 = 3) => ?_) (fun (hc514 : ¬ (¬ 12 = 3)) => ?_)
                  · refine zp_load (pc := 174) hx hb (zd_X6_value (174, .iload 6, 2, 0, []) (List.mem_of_getElem? (i := 96) rfl)) rfl (j := 2) rfl ?_
                    refine zp_const (pc := 176) hx hb (zd_X6_value (176, .iconst 4, 1, 0, []) (List.mem_of_getElem? (i := 97) rfl)) rfl rfl ?_
                    refine zp_icmp (pc := 177) (tgt := 186) hx hb (zd_X6_value (177, .if_icmp .eq 9, 3, 0, []) (List.mem_of_getElem? (i := 98) rfl)) rfl (fun (hc515 : 12 = 4) => ?_) (fun (hc515 : ¬ (12 = 4)) => ?_)
                    · exfalso
                      omega
                    · refine zp_load (pc := 180) hx hb (zd_X6_value (180, .iload 6, 2, 0, []) (List.mem_of_getElem? (i := 99) rfl)) rfl (j := 2) rfl ?_
                      refine zp_const (pc := 182) hx hb (zd_X6_value (182, .iconst 5, 1, 0, []) (List.mem_of_getElem? (i := 100) rfl)) rfl rfl ?_
                      refine zp_icmp (pc := 183) (tgt := 236) hx hb (zd_X6_value (183, .if_icmp .ne 53, 3, 0, []) (List.mem_of_getElem? (i := 101) rfl)) rfl (fun (hc516 : ¬ 12 = 5) => ?_) (fun (hc516 : ¬ (¬ 12 = 5)) => ?_)
                      · refine zp_load (pc := 236) hx hb (zd_X6_value (236, .iload 4, 2, 0, []) (List.mem_of_getElem? (i := 128) rfl)) rfl (j := 3) rfl ?_
                        refine zp_const (pc := 238) hx hb (zd_X6_value (238, .iconst 2, 1, 0, []) (List.mem_of_getElem? (i := 129) rfl)) rfl rfl ?_
                        refine zp_icmp (pc := 239) (tgt := 246) hx hb (zd_X6_value (239, .if_icmp .ge 7, 3, 0, []) (List.mem_of_getElem? (i := 130) rfl)) rfl (fun (hc517 : 2 ≤ ((d : Int) + 2)) => ?_) (fun (hc517 : ¬ (2 ≤ ((d : Int) + 2))) => ?_)
                        · refine zp_iinc (L' := [(4, 0, ((d : Int) + 1)), (8, 1, v2), (7, 0, (C (b + 1))), (6, 0, 12), (5, 0, (b : Int)), (0, 2, (a : Int)), (1, 2, (xt9 : Int)), (2, 0, (i2 : Int)), (3, 2, (wd9 : Int))]) (n := ((d : Int) + 1)) (pc := 246) hx hb hnL (zd_X6_value (246, .iinc 4 (-1), 3, 0, []) (List.mem_of_getElem? (i := 133) rfl)) (j := 3) rfl (by omega) (zp_r0 (by omega) (by omega)) rfl rfl ?_
                          refine zp_load (pc := 249) hx hb (zd_X6_value (249, .aload_n 0, 1, 0, []) (List.mem_of_getElem? (i := 134) rfl)) rfl (j := 5) rfl ?_
                          refine zp_getf (n := (st : Int)) (pc := 250) hx hb hE hw (zd_X6_value (250, .getfield 15, 3, 0, []) (List.mem_of_getElem? (i := 135) rfl)) (j := 5) rfl rfl rfl hp hm.1 ?_
                          refine zp_load (pc := 253) hx hb (zd_X6_value (253, .iload 4, 2, 0, []) (List.mem_of_getElem? (i := 136) rfl)) rfl (j := 0) rfl ?_
                          refine zp_const (pc := 255) hx hb (zd_X6_value (255, .iconst 1, 1, 0, []) (List.mem_of_getElem? (i := 137) rfl)) rfl rfl ?_
                          refine zp_sub (n := (d : Int)) (pc := 256) hx hb (zd_X6_value (256, .isub, 1, 0, []) (List.mem_of_getElem? (i := 138) rfl)) (by omega) (zp_r0 (by omega) (by omega)) ?_
                          refine zp_lald (j := d) (v := v1) (pc := 257) hx hb hw (zd_X6_value (257, .laload, 1, 0, []) (List.mem_of_getElem? (i := 139) rfl)) (show zp_ia 2 28 = some (64, 1, 0, (-9223372036854775808), 9223372036854775807) from rfl) qst (by omega) (by omega) e1 ?_
                          refine zp_store (L' := [(10, 1, v1), (4, 0, ((d : Int) + 1)), (8, 1, v2), (7, 0, (C (b + 1))), (6, 0, 12), (5, 0, (b : Int)), (0, 2, (a : Int)), (1, 2, (xt9 : Int)), (2, 0, (i2 : Int)), (3, 2, (wd9 : Int))]) (pc := 258) hx hb hnL (zd_X6_value (258, .lstore 10, 2, 0, []) (List.mem_of_getElem? (i := 140) rfl)) rfl rfl rfl ?_
                          refine zp_load (pc := 260) hx hb (zd_X6_value (260, .iload 6, 2, 0, []) (List.mem_of_getElem? (i := 141) rfl)) rfl (j := 4) rfl ?_
                          refine zp_tin (tgt := 398) (off := 136) (pc := 262) hx hb (zd_X6_value (262, .tableswitch 154 6 12 #[42, 52, 62, 72, 95, 118, 136], 42, 0, []) (List.mem_of_getElem? (i := 142) rfl)) (by decide) (by decide) (by decide) rfl ?_
                          refine zp_load (pc := 398) hx hb (zd_X6_value (398, .lload 10, 2, 0, []) (List.mem_of_getElem? (i := 189) rfl)) rfl (j := 0) rfl ?_
                          refine zp_load (pc := 400) hx hb (zd_X6_value (400, .lload 8, 2, 0, []) (List.mem_of_getElem? (i := 190) rfl)) rfl (j := 2) rfl ?_
                          refine zp_lcmp (pc := 402) (tgt := 410) hx hb (zd_X6_value (402, .lcmp, 1, 0, []) (List.mem_of_getElem? (i := 191) rfl)) (zd_X6_value (403, .ifCond .le 7, 3, 0, []) (List.mem_of_getElem? (i := 192) rfl)) rfl (fun (hc519 : v1 ≤ v2) => ?_) (fun (hc519 : ¬ (v1 ≤ v2)) => ?_)
                          · refine zp_const (pc := 410) hx hb (zd_X6_value (410, .lconst 0, 1, 0, []) (List.mem_of_getElem? (i := 195) rfl)) rfl rfl ?_
                            refine zp_store (L' := [(12, 1, 0), (10, 1, v1), (4, 0, ((d : Int) + 1)), (8, 1, v2), (7, 0, (C (b + 1))), (6, 0, 12), (5, 0, (b : Int)), (0, 2, (a : Int)), (1, 2, (xt9 : Int)), (2, 0, (i2 : Int)), (3, 2, (wd9 : Int))]) (pc := 411) hx hb hnL (zd_X6_value (411, .lstore 12, 2, 0, []) (List.mem_of_getElem? (i := 196) rfl)) rfl rfl rfl ?_
                            refine zp_goto (tgt := 431) (pc := 413) hx hb (zd_X6_value (413, .goto 18, 3, 0, []) (List.mem_of_getElem? (i := 197) rfl)) rfl ?_
                            refine zp_load (pc := 431) hx hb (zd_X6_value (431, .lload 12, 2, 0, []) (List.mem_of_getElem? (i := 206) rfl)) rfl (j := 0) rfl ?_
                            refine zp_ldc2 (pc := 433) hx hb hE (zd_X6_value (433, .ldc2_w 89, 3, 0, []) (List.mem_of_getElem? (i := 207) rfl)) (j := 13) rfl ?_
                            refine zp_lcmp (pc := 436) (tgt := 449) hx hb (zd_X6_value (436, .lcmp, 1, 0, []) (List.mem_of_getElem? (i := 208) rfl)) (zd_X6_value (437, .ifCond .gt 12, 3, 0, []) (List.mem_of_getElem? (i := 209) rfl)) rfl (fun (hc520 : 1000000000 < 0) => ?_) (fun (hc520 : ¬ (1000000000 < 0)) => ?_)
                            · exfalso
                              omega
                            · refine zp_load (pc := 440) hx hb (zd_X6_value (440, .lload 12, 2, 0, []) (List.mem_of_getElem? (i := 210) rfl)) rfl (j := 0) rfl ?_
                              refine zp_ldc2 (pc := 442) hx hb hE (zd_X6_value (442, .ldc2_w 91, 3, 0, []) (List.mem_of_getElem? (i := 211) rfl)) (j := 14) rfl ?_
                              refine zp_lcmp (pc := 445) (tgt := 453) hx hb (zd_X6_value (445, .lcmp, 1, 0, []) (List.mem_of_getElem? (i := 212) rfl)) (zd_X6_value (446, .ifCond .ge 7, 3, 0, []) (List.mem_of_getElem? (i := 213) rfl)) rfl (fun (hc521 : (-1000000000) ≤ 0) => ?_) (fun (hc521 : ¬ ((-1000000000) ≤ 0)) => ?_)
                              · refine zp_load (pc := 453) hx hb (zd_X6_value (453, .aload_n 0, 1, 0, []) (List.mem_of_getElem? (i := 216) rfl)) rfl (j := 7) rfl ?_
                                refine zp_getf (n := (st : Int)) (pc := 454) hx hb hE hw (zd_X6_value (454, .getfield 15, 3, 0, []) (List.mem_of_getElem? (i := 217) rfl)) (j := 5) rfl rfl rfl hp hm.1 ?_
                                refine zp_load (pc := 457) hx hb (zd_X6_value (457, .iload 4, 2, 0, []) (List.mem_of_getElem? (i := 218) rfl)) rfl (j := 2) rfl ?_
                                refine zp_const (pc := 459) hx hb (zd_X6_value (459, .iconst 1, 1, 0, []) (List.mem_of_getElem? (i := 219) rfl)) rfl rfl ?_
                                refine zp_sub (n := (d : Int)) (pc := 460) hx hb (zd_X6_value (460, .isub, 1, 0, []) (List.mem_of_getElem? (i := 220) rfl)) (by omega) (zp_r0 (by omega) (by omega)) ?_
                                refine zp_load (pc := 461) hx hb (zd_X6_value (461, .lload 12, 2, 0, []) (List.mem_of_getElem? (i := 221) rfl)) rfl (j := 0) rfl ?_
                                refine zp_last (j := d) (pc := 463) hx hb hw heff (zd_X6_value (463, .lastore, 1, 0, []) (List.mem_of_getElem? (i := 222) rfl)) (show zp_ia 2 28 = some (64, 1, 0, (-9223372036854775808), 9223372036854775807) from rfl) qst (by omega) (by omega) rfl ?_
                                refine zp_iinc (L' := [(5, 0, ((b : Int) + 2)), (12, 1, 0), (10, 1, v1), (4, 0, ((d : Int) + 1)), (8, 1, v2), (7, 0, (C (b + 1))), (6, 0, 12), (0, 2, (a : Int)), (1, 2, (xt9 : Int)), (2, 0, (i2 : Int)), (3, 2, (wd9 : Int))]) (n := ((b : Int) + 2)) (pc := 464) hx hb hnL (zd_X6_value (464, .iinc 5 2, 3, 0, []) (List.mem_of_getElem? (i := 223) rfl)) (j := 6) rfl (by omega) (zp_r0 (by omega) (by omega)) rfl rfl ?_
                                refine zp_goto (tgt := 13) (pc := 467) hx hb (zd_X6_value (467, .goto (-454), 3, 0, []) (List.mem_of_getElem? (i := 224) rfl)) rfl ?_
                                refine zp_drop (L' := [(4, 0, ((d : Int) + 1)), (5, 0, ((b : Int) + 2)), (0, 2, (a : Int)), (1, 2, (xt9 : Int)), (2, 0, (i2 : Int)), (3, 2, (wd9 : Int))]) (by simp) ?_
                                exact kk 0 _ (zg_bns (fun h => absurd h.1 (by decide)) (by first | exact (zg_v26 v1 v2).1 (by omega) | exact (zg_v26 v1 v2).2 (by omega)) (by omega) (by omega)) (zgV_s hm n1 n2 n3 n4) (fun j hj => zp_set_ne (Or.inr (by omega))) zp_set_self
                              · exfalso
                                omega
                          · refine zp_const (pc := 406) hx hb (zd_X6_value (406, .lconst 1, 1, 0, []) (List.mem_of_getElem? (i := 193) rfl)) rfl rfl ?_
                            refine zp_goto (tgt := 411) (pc := 407) hx hb (zd_X6_value (407, .goto 4, 3, 0, []) (List.mem_of_getElem? (i := 194) rfl)) rfl ?_
                            refine zp_store (L' := [(12, 1, 1), (10, 1, v1), (4, 0, ((d : Int) + 1)), (8, 1, v2), (7, 0, (C (b + 1))), (6, 0, 12), (5, 0, (b : Int)), (0, 2, (a : Int)), (1, 2, (xt9 : Int)), (2, 0, (i2 : Int)), (3, 2, (wd9 : Int))]) (pc := 411) hx hb hnL (zd_X6_value (411, .lstore 12, 2, 0, []) (List.mem_of_getElem? (i := 196) rfl)) rfl rfl rfl ?_
                            refine zp_goto (tgt := 431) (pc := 413) hx hb (zd_X6_value (413, .goto 18, 3, 0, []) (List.mem_of_getElem? (i := 197) rfl)) rfl ?_
                            refine zp_load (pc := 431) hx hb (zd_X6_value (431, .lload 12, 2, 0, []) (List.mem_of_getElem? (i := 206) rfl)) rfl (j := 0) rfl ?_
                            refine zp_ldc2 (pc := 433) hx hb hE (zd_X6_value (433, .ldc2_w 89, 3, 0, []) (List.mem_of_getElem? (i := 207) rfl)) (j := 13) rfl ?_
                            refine zp_lcmp (pc := 436) (tgt := 449) hx hb (zd_X6_value (436, .lcmp, 1, 0, []) (List.mem_of_getElem? (i := 208) rfl)) (zd_X6_value (437, .ifCond .gt 12, 3, 0, []) (List.mem_of_getElem? (i := 209) rfl)) rfl (fun (hc522 : 1000000000 < 1) => ?_) (fun (hc522 : ¬ (1000000000 < 1)) => ?_)
                            · exfalso
                              omega
                            · refine zp_load (pc := 440) hx hb (zd_X6_value (440, .lload 12, 2, 0, []) (List.mem_of_getElem? (i := 210) rfl)) rfl (j := 0) rfl ?_
                              refine zp_ldc2 (pc := 442) hx hb hE (zd_X6_value (442, .ldc2_w 91, 3, 0, []) (List.mem_of_getElem? (i := 211) rfl)) (j := 14) rfl ?_
                              refine zp_lcmp (pc := 445) (tgt := 453) hx hb (zd_X6_value (445, .lcmp, 1, 0, []) (List.mem_of_getElem? (i := 212) rfl)) (zd_X6_value (446, .ifCond .ge 7, 3, 0, []) (List.mem_of_getElem? (i := 213) rfl)) rfl (fun (hc523 : (-1000000000) ≤ 1) => ?_) (fun (hc523 : ¬ ((-1000000000) ≤ 1)) => ?_)
                              · refine zp_load (pc := 453) hx hb (zd_X6_value (453, .aload_n 0, 1, 0, []) (List.mem_of_getElem? (i := 216) rfl)) rfl (j := 7) rfl ?_
                                refine zp_getf (n := (st : Int)) (pc := 454) hx hb hE hw (zd_X6_value (454, .getfield 15, 3, 0, []) (List.mem_of_getElem? (i := 217) rfl)) (j := 5) rfl rfl rfl hp hm.1 ?_
                                refine zp_load (pc := 457) hx hb (zd_X6_value (457, .iload 4, 2, 0, []) (List.mem_of_getElem? (i := 218) rfl)) rfl (j := 2) rfl ?_
                                refine zp_const (pc := 459) hx hb (zd_X6_value (459, .iconst 1, 1, 0, []) (List.mem_of_getElem? (i := 219) rfl)) rfl rfl ?_
                                refine zp_sub (n := (d : Int)) (pc := 460) hx hb (zd_X6_value (460, .isub, 1, 0, []) (List.mem_of_getElem? (i := 220) rfl)) (by omega) (zp_r0 (by omega) (by omega)) ?_
                                refine zp_load (pc := 461) hx hb (zd_X6_value (461, .lload 12, 2, 0, []) (List.mem_of_getElem? (i := 221) rfl)) rfl (j := 0) rfl ?_
                                refine zp_last (j := d) (pc := 463) hx hb hw heff (zd_X6_value (463, .lastore, 1, 0, []) (List.mem_of_getElem? (i := 222) rfl)) (show zp_ia 2 28 = some (64, 1, 0, (-9223372036854775808), 9223372036854775807) from rfl) qst (by omega) (by omega) rfl ?_
                                refine zp_iinc (L' := [(5, 0, ((b : Int) + 2)), (12, 1, 1), (10, 1, v1), (4, 0, ((d : Int) + 1)), (8, 1, v2), (7, 0, (C (b + 1))), (6, 0, 12), (0, 2, (a : Int)), (1, 2, (xt9 : Int)), (2, 0, (i2 : Int)), (3, 2, (wd9 : Int))]) (n := ((b : Int) + 2)) (pc := 464) hx hb hnL (zd_X6_value (464, .iinc 5 2, 3, 0, []) (List.mem_of_getElem? (i := 223) rfl)) (j := 6) rfl (by omega) (zp_r0 (by omega) (by omega)) rfl rfl ?_
                                refine zp_goto (tgt := 13) (pc := 467) hx hb (zd_X6_value (467, .goto (-454), 3, 0, []) (List.mem_of_getElem? (i := 224) rfl)) rfl ?_
                                refine zp_drop (L' := [(4, 0, ((d : Int) + 1)), (5, 0, ((b : Int) + 2)), (0, 2, (a : Int)), (1, 2, (xt9 : Int)), (2, 0, (i2 : Int)), (3, 2, (wd9 : Int))]) (by simp) ?_
                                exact kk 1 _ (zg_bns (fun h => absurd h.1 (by decide)) (by first | exact (zg_v26 v1 v2).1 (by omega) | exact (zg_v26 v1 v2).2 (by omega)) (by omega) (by omega)) (zgV_s hm n1 n2 n3 n4) (fun j hj => zp_set_ne (Or.inr (by omega))) zp_set_self
                              · exfalso
                                omega
                        · exfalso
                          omega
                      · exfalso
                        omega
                  · exfalso
                    omega
                · exfalso
                  omega
              · exfalso
                omega
            · exfalso
              omega
  have step_13 : ∀ (b d : Nat) (v1 v2 : Int) (G : Nat → Nat → Int), b < e9 → d + 2 < 64 → zgV a xt9 cd st wd9 N C Wd G → C b = 13 → G st (2000 + d) = v1 → G st (2000 + (d + 1)) = v2 → -2147483648 ≤ v1 ∧ v1 ≤ 2147483648 → -2147483648 ≤ v2 ∧ v2 ≤ 2147483648 → (∀ (v : Int) (G' : Nat → Nat → Int), yd_bn 27 v1 v2 = some v → zgV a xt9 cd st wd9 N C Wd G' → (∀ j, j < d → G' st (2000 + j) = G st (2000 + j)) → G' st (2000 + d) = v → zp_J p l e R s m args below meth c Q w u [] 13 [(4, 0, ((d + 1 : Nat) : Int)), (5, 0, ((b + 2 : Nat) : Int)), (0, 2, (a : Int)), (1, 2, (xt9 : Int)), (2, 0, (i2 : Int)), (3, 2, (wd9 : Int))] [] u.1 G') → (yd_bn 27 v1 v2 = none → x en = none) → zp_J p l e R s m args below meth c Q w u [] 13 [(4, 0, ((d + 2 : Nat) : Int)), (5, 0, ((b : Nat) : Int)), (0, 2, (a : Int)), (1, 2, (xt9 : Int)), (2, 0, (i2 : Int)), (3, 2, (wd9 : Int))] [] u.1 G := by
    clear step_l1 step_l2 exitv step_nt step_b4 step_b5 step_6 step_7 step_8 step_9 step_10 step_11 step_12
    intro b d v1 v2 G hb2 hd hm o1 e1 e2 bd1 bd2 kk kb
    have ho1 : G cd (2000 + b) = 13 := (hm.2.2.2.1 b).trans o1
    refine zp_drop (L' := [(4, 0, ((d : Int) + 2)), (5, 0, (b : Int)), (0, 2, (a : Int)), (1, 2, (xt9 : Int)), (2, 0, (i2 : Int)), (3, 2, (wd9 : Int))]) (by simp <;> omega) ?_
    have h99 : zk_rg 1 (-9000000000) := ⟨by decide, by decide⟩
    have hl13 := hm.2.2.1
    refine zp_load (pc := 13) hx hb (zd_X6_value (13, .iload 5, 2, 0, []) (List.mem_of_getElem? (i := 9) rfl)) rfl (j := 1) rfl ?_
    refine zp_if (pc := 15) (tgt := 470) hx hb (zd_X6_value (15, .ifCond .lt 455, 3, 0, []) (List.mem_of_getElem? (i := 10) rfl)) rfl (fun (hc524 : (b : Int) < 0) => ?_) (fun (hc524 : ¬ ((b : Int) < 0)) => ?_)
    · exfalso
      omega
    · refine zp_load (pc := 18) hx hb (zd_X6_value (18, .iload 5, 2, 0, []) (List.mem_of_getElem? (i := 11) rfl)) rfl (j := 1) rfl ?_
      refine zp_const (pc := 20) hx hb (zd_X6_value (20, .iconst 1, 1, 0, []) (List.mem_of_getElem? (i := 12) rfl)) rfl rfl ?_
      refine zp_add (n := ((b : Int) + 1)) (pc := 21) hx hb (zd_X6_value (21, .iadd, 1, 0, []) (List.mem_of_getElem? (i := 13) rfl)) (by omega) (zp_r0 (by omega) (by omega)) ?_
      refine zp_load (pc := 22) hx hb (zd_X6_value (22, .aload_n 1, 1, 0, []) (List.mem_of_getElem? (i := 14) rfl)) rfl (j := 3) rfl ?_
      refine zp_getf (n := (cd : Int)) (pc := 23) hx hb hE hw (zd_X6_value (23, .getfield 86, 3, 0, []) (List.mem_of_getElem? (i := 15) rfl)) (j := 10) rfl rfl rfl qxt hm.2.1 ?_
      refine zp_alenN (N := N) (pc := 26) hx hb hw (zd_X6_value (26, .arraylength, 1, 0, []) (List.mem_of_getElem? (i := 16) rfl)) qcd ⟨_, rfl, by decide, by decide⟩ hm.2.2.1 ?_
      refine zp_icmp (pc := 27) (tgt := 470) hx hb (zd_X6_value (27, .if_icmp .ge 443, 3, 0, []) (List.mem_of_getElem? (i := 17) rfl)) rfl (fun (hc525 : (N : Int) ≤ ((b : Int) + 1)) => ?_) (fun (hc525 : ¬ ((N : Int) ≤ ((b : Int) + 1))) => ?_)
      · exfalso
        omega
      · refine zp_load (pc := 30) hx hb (zd_X6_value (30, .iload 4, 2, 0, []) (List.mem_of_getElem? (i := 18) rfl)) rfl (j := 0) rfl ?_
        refine zp_const (pc := 32) hx hb (zd_X6_value (32, .bipush 64, 2, 0, []) (List.mem_of_getElem? (i := 19) rfl)) rfl rfl ?_
        refine zp_icmp (pc := 34) (tgt := 470) hx hb (zd_X6_value (34, .if_icmp .ge 436, 3, 0, []) (List.mem_of_getElem? (i := 20) rfl)) rfl (fun (hc526 : 64 ≤ ((d : Int) + 2)) => ?_) (fun (hc526 : ¬ (64 ≤ ((d : Int) + 2))) => ?_)
        · exfalso
          omega
        · refine zp_load (pc := 37) hx hb (zd_X6_value (37, .aload_n 1, 1, 0, []) (List.mem_of_getElem? (i := 21) rfl)) rfl (j := 3) rfl ?_
          refine zp_getf (n := (cd : Int)) (pc := 38) hx hb hE hw (zd_X6_value (38, .getfield 86, 3, 0, []) (List.mem_of_getElem? (i := 22) rfl)) (j := 10) rfl rfl rfl qxt hm.2.1 ?_
          refine zp_load (pc := 41) hx hb (zd_X6_value (41, .iload 5, 2, 0, []) (List.mem_of_getElem? (i := 23) rfl)) rfl (j := 1) rfl ?_
          refine zp_ialdN (j := b) (v := 13) (N := N) (pc := 43) hx hb hw (zd_X6_value (43, .iaload, 1, 0, []) (List.mem_of_getElem? (i := 24) rfl)) (show zp_ia 1 35 = some (872, 0, 0, (-1000000), 1000000) from rfl) ⟨_, rfl, by decide⟩ hm.2.2.1 qcd (by omega) (by omega) ho1 (fun hk527 => ?_)
          have hk527b := zp_int hk527
          refine zp_store (L' := [(6, 0, 13), (4, 0, ((d : Int) + 2)), (5, 0, (b : Int)), (0, 2, (a : Int)), (1, 2, (xt9 : Int)), (2, 0, (i2 : Int)), (3, 2, (wd9 : Int))]) (pc := 44) hx hb hnL (zd_X6_value (44, .istore 6, 2, 0, []) (List.mem_of_getElem? (i := 25) rfl)) rfl rfl rfl ?_
          refine zp_load (pc := 46) hx hb (zd_X6_value (46, .aload_n 1, 1, 0, []) (List.mem_of_getElem? (i := 26) rfl)) rfl (j := 4) rfl ?_
          refine zp_getf (n := (cd : Int)) (pc := 47) hx hb hE hw (zd_X6_value (47, .getfield 86, 3, 0, []) (List.mem_of_getElem? (i := 27) rfl)) (j := 10) rfl rfl rfl qxt hm.2.1 ?_
          refine zp_load (pc := 50) hx hb (zd_X6_value (50, .iload 5, 2, 0, []) (List.mem_of_getElem? (i := 28) rfl)) rfl (j := 2) rfl ?_
          refine zp_const (pc := 52) hx hb (zd_X6_value (52, .iconst 1, 1, 0, []) (List.mem_of_getElem? (i := 29) rfl)) rfl rfl ?_
          refine zp_add (n := ((b : Int) + 1)) (pc := 53) hx hb (zd_X6_value (53, .iadd, 1, 0, []) (List.mem_of_getElem? (i := 30) rfl)) (by omega) (zp_r0 (by omega) (by omega)) ?_
          refine zp_ialdN (j := (b + 1)) (v := (C (b + 1))) (N := N) (pc := 54) hx hb hw (zd_X6_value (54, .iaload, 1, 0, []) (List.mem_of_getElem? (i := 31) rfl)) (show zp_ia 1 35 = some (872, 0, 0, (-1000000), 1000000) from rfl) ⟨_, rfl, by decide⟩ hm.2.2.1 qcd (by omega) (by omega) (hm.2.2.2.1 (b + 1)) (fun hk528 => ?_)
          have hk528b := zp_int hk528
          refine zp_store (L' := [(7, 0, (C (b + 1))), (6, 0, 13), (4, 0, ((d : Int) + 2)), (5, 0, (b : Int)), (0, 2, (a : Int)), (1, 2, (xt9 : Int)), (2, 0, (i2 : Int)), (3, 2, (wd9 : Int))]) (pc := 55) hx hb hnL (zd_X6_value (55, .istore 7, 2, 0, []) (List.mem_of_getElem? (i := 32) rfl)) rfl rfl rfl ?_
          refine zp_load (pc := 57) hx hb (zd_X6_value (57, .iload 6, 2, 0, []) (List.mem_of_getElem? (i := 33) rfl)) rfl (j := 1) rfl ?_
          refine zp_const (pc := 59) hx hb (zd_X6_value (59, .iconst 1, 1, 0, []) (List.mem_of_getElem? (i := 34) rfl)) rfl rfl ?_
          refine zp_icmp (pc := 60) (tgt := 69) hx hb (zd_X6_value (60, .if_icmp .eq 9, 3, 0, []) (List.mem_of_getElem? (i := 35) rfl)) rfl (fun (hc529 : 13 = 1) => ?_) (fun (hc529 : ¬ (13 = 1)) => ?_)
          · exfalso
            omega
          · refine zp_load (pc := 63) hx hb (zd_X6_value (63, .iload 6, 2, 0, []) (List.mem_of_getElem? (i := 36) rfl)) rfl (j := 1) rfl ?_
            refine zp_const (pc := 65) hx hb (zd_X6_value (65, .iconst 2, 1, 0, []) (List.mem_of_getElem? (i := 37) rfl)) rfl rfl ?_
            refine zp_icmp (pc := 66) (tgt := 123) hx hb (zd_X6_value (66, .if_icmp .ne 57, 3, 0, []) (List.mem_of_getElem? (i := 38) rfl)) rfl (fun (hc530 : ¬ 13 = 2) => ?_) (fun (hc530 : ¬ (¬ 13 = 2)) => ?_)
            · refine zp_load (pc := 123) hx hb (zd_X6_value (123, .iload 4, 2, 0, []) (List.mem_of_getElem? (i := 67) rfl)) rfl (j := 2) rfl ?_
              refine zp_const (pc := 125) hx hb (zd_X6_value (125, .iconst 1, 1, 0, []) (List.mem_of_getElem? (i := 68) rfl)) rfl rfl ?_
              refine zp_icmp (pc := 126) (tgt := 133) hx hb (zd_X6_value (126, .if_icmp .ge 7, 3, 0, []) (List.mem_of_getElem? (i := 69) rfl)) rfl (fun (hc531 : 1 ≤ ((d : Int) + 2)) => ?_) (fun (hc531 : ¬ (1 ≤ ((d : Int) + 2))) => ?_)
              · refine zp_load (pc := 133) hx hb (zd_X6_value (133, .aload_n 0, 1, 0, []) (List.mem_of_getElem? (i := 72) rfl)) rfl (j := 4) rfl ?_
                refine zp_getf (n := (st : Int)) (pc := 134) hx hb hE hw (zd_X6_value (134, .getfield 15, 3, 0, []) (List.mem_of_getElem? (i := 73) rfl)) (j := 5) rfl rfl rfl hp hm.1 ?_
                refine zp_load (pc := 137) hx hb (zd_X6_value (137, .iload 4, 2, 0, []) (List.mem_of_getElem? (i := 74) rfl)) rfl (j := 2) rfl ?_
                refine zp_const (pc := 139) hx hb (zd_X6_value (139, .iconst 1, 1, 0, []) (List.mem_of_getElem? (i := 75) rfl)) rfl rfl ?_
                refine zp_sub (n := ((d : Int) + 1)) (pc := 140) hx hb (zd_X6_value (140, .isub, 1, 0, []) (List.mem_of_getElem? (i := 76) rfl)) (by omega) (zp_r0 (by omega) (by omega)) ?_
                refine zp_lald (j := (d + 1)) (v := v2) (pc := 141) hx hb hw (zd_X6_value (141, .laload, 1, 0, []) (List.mem_of_getElem? (i := 77) rfl)) (show zp_ia 2 28 = some (64, 1, 0, (-9223372036854775808), 9223372036854775807) from rfl) qst (by omega) (by omega) e2 ?_
                refine zp_store (L' := [(8, 1, v2), (7, 0, (C (b + 1))), (6, 0, 13), (4, 0, ((d : Int) + 2)), (5, 0, (b : Int)), (0, 2, (a : Int)), (1, 2, (xt9 : Int)), (2, 0, (i2 : Int)), (3, 2, (wd9 : Int))]) (pc := 142) hx hb hnL (zd_X6_value (142, .lstore 8, 2, 0, []) (List.mem_of_getElem? (i := 78) rfl)) rfl rfl rfl ?_
                refine zp_load (pc := 144) hx hb (zd_X6_value (144, .iload 6, 2, 0, []) (List.mem_of_getElem? (i := 79) rfl)) rfl (j := 2) rfl ?_
                refine zp_if (pc := 146) (tgt := 152) hx hb (zd_X6_value (146, .ifCond .ne 6, 3, 0, []) (List.mem_of_getElem? (i := 80) rfl)) rfl (fun (hc533 : ¬ 13 = 0) => ?_) (fun (hc533 : ¬ (¬ 13 = 0)) => ?_)
                · refine zp_load (pc := 152) hx hb (zd_X6_value (152, .iload 6, 2, 0, []) (List.mem_of_getElem? (i := 83) rfl)) rfl (j := 2) rfl ?_
                  refine zp_const (pc := 154) hx hb (zd_X6_value (154, .iconst 3, 1, 0, []) (List.mem_of_getElem? (i := 84) rfl)) rfl rfl ?_
                  refine zp_icmp (pc := 155) (tgt := 174) hx hb (zd_X6_value (155, .if_icmp .ne 19, 3, 0, []) (List.mem_of_getElem? (i := 85) rfl)) rfl (fun (hc534 : ¬ 13 = 3) => ?_) (fun (hc534 : ¬ (¬ 13 = 3)) => ?_)
                  · refine zp_load (pc := 174) hx hb (zd_X6_value (174, .iload 6, 2, 0, []) (List.mem_of_getElem? (i := 96) rfl)) rfl (j := 2) rfl ?_
                    refine zp_const (pc := 176) hx hb (zd_X6_value (176, .iconst 4, 1, 0, []) (List.mem_of_getElem? (i := 97) rfl)) rfl rfl ?_
                    refine zp_icmp (pc := 177) (tgt := 186) hx hb (zd_X6_value (177, .if_icmp .eq 9, 3, 0, []) (List.mem_of_getElem? (i := 98) rfl)) rfl (fun (hc535 : 13 = 4) => ?_) (fun (hc535 : ¬ (13 = 4)) => ?_)
                    · exfalso
                      omega
                    · refine zp_load (pc := 180) hx hb (zd_X6_value (180, .iload 6, 2, 0, []) (List.mem_of_getElem? (i := 99) rfl)) rfl (j := 2) rfl ?_
                      refine zp_const (pc := 182) hx hb (zd_X6_value (182, .iconst 5, 1, 0, []) (List.mem_of_getElem? (i := 100) rfl)) rfl rfl ?_
                      refine zp_icmp (pc := 183) (tgt := 236) hx hb (zd_X6_value (183, .if_icmp .ne 53, 3, 0, []) (List.mem_of_getElem? (i := 101) rfl)) rfl (fun (hc536 : ¬ 13 = 5) => ?_) (fun (hc536 : ¬ (¬ 13 = 5)) => ?_)
                      · refine zp_load (pc := 236) hx hb (zd_X6_value (236, .iload 4, 2, 0, []) (List.mem_of_getElem? (i := 128) rfl)) rfl (j := 3) rfl ?_
                        refine zp_const (pc := 238) hx hb (zd_X6_value (238, .iconst 2, 1, 0, []) (List.mem_of_getElem? (i := 129) rfl)) rfl rfl ?_
                        refine zp_icmp (pc := 239) (tgt := 246) hx hb (zd_X6_value (239, .if_icmp .ge 7, 3, 0, []) (List.mem_of_getElem? (i := 130) rfl)) rfl (fun (hc537 : 2 ≤ ((d : Int) + 2)) => ?_) (fun (hc537 : ¬ (2 ≤ ((d : Int) + 2))) => ?_)
                        · refine zp_iinc (L' := [(4, 0, ((d : Int) + 1)), (8, 1, v2), (7, 0, (C (b + 1))), (6, 0, 13), (5, 0, (b : Int)), (0, 2, (a : Int)), (1, 2, (xt9 : Int)), (2, 0, (i2 : Int)), (3, 2, (wd9 : Int))]) (n := ((d : Int) + 1)) (pc := 246) hx hb hnL (zd_X6_value (246, .iinc 4 (-1), 3, 0, []) (List.mem_of_getElem? (i := 133) rfl)) (j := 3) rfl (by omega) (zp_r0 (by omega) (by omega)) rfl rfl ?_
                          refine zp_load (pc := 249) hx hb (zd_X6_value (249, .aload_n 0, 1, 0, []) (List.mem_of_getElem? (i := 134) rfl)) rfl (j := 5) rfl ?_
                          refine zp_getf (n := (st : Int)) (pc := 250) hx hb hE hw (zd_X6_value (250, .getfield 15, 3, 0, []) (List.mem_of_getElem? (i := 135) rfl)) (j := 5) rfl rfl rfl hp hm.1 ?_
                          refine zp_load (pc := 253) hx hb (zd_X6_value (253, .iload 4, 2, 0, []) (List.mem_of_getElem? (i := 136) rfl)) rfl (j := 0) rfl ?_
                          refine zp_const (pc := 255) hx hb (zd_X6_value (255, .iconst 1, 1, 0, []) (List.mem_of_getElem? (i := 137) rfl)) rfl rfl ?_
                          refine zp_sub (n := (d : Int)) (pc := 256) hx hb (zd_X6_value (256, .isub, 1, 0, []) (List.mem_of_getElem? (i := 138) rfl)) (by omega) (zp_r0 (by omega) (by omega)) ?_
                          refine zp_lald (j := d) (v := v1) (pc := 257) hx hb hw (zd_X6_value (257, .laload, 1, 0, []) (List.mem_of_getElem? (i := 139) rfl)) (show zp_ia 2 28 = some (64, 1, 0, (-9223372036854775808), 9223372036854775807) from rfl) qst (by omega) (by omega) e1 ?_
                          refine zp_store (L' := [(10, 1, v1), (4, 0, ((d : Int) + 1)), (8, 1, v2), (7, 0, (C (b + 1))), (6, 0, 13), (5, 0, (b : Int)), (0, 2, (a : Int)), (1, 2, (xt9 : Int)), (2, 0, (i2 : Int)), (3, 2, (wd9 : Int))]) (pc := 258) hx hb hnL (zd_X6_value (258, .lstore 10, 2, 0, []) (List.mem_of_getElem? (i := 140) rfl)) rfl rfl rfl ?_
                          refine zp_load (pc := 260) hx hb (zd_X6_value (260, .iload 6, 2, 0, []) (List.mem_of_getElem? (i := 141) rfl)) rfl (j := 4) rfl ?_
                          refine zp_tout (tgt := 416) (pc := 262) hx hb (zd_X6_value (262, .tableswitch 154 6 12 #[42, 52, 62, 72, 95, 118, 136], 42, 0, []) (List.mem_of_getElem? (i := 142) rfl)) (by decide) rfl ?_
                          refine zp_load (pc := 416) hx hb (zd_X6_value (416, .lload 10, 2, 0, []) (List.mem_of_getElem? (i := 198) rfl)) rfl (j := 0) rfl ?_
                          refine zp_load (pc := 418) hx hb (zd_X6_value (418, .lload 8, 2, 0, []) (List.mem_of_getElem? (i := 199) rfl)) rfl (j := 2) rfl ?_
                          refine zp_lcmp (pc := 420) (tgt := 428) hx hb (zd_X6_value (420, .lcmp, 1, 0, []) (List.mem_of_getElem? (i := 200) rfl)) (zd_X6_value (421, .ifCond .ne 7, 3, 0, []) (List.mem_of_getElem? (i := 201) rfl)) rfl (fun (hc539 : ¬ v1 = v2) => ?_) (fun (hc539 : ¬ (¬ v1 = v2)) => ?_)
                          · refine zp_const (pc := 428) hx hb (zd_X6_value (428, .lconst 0, 1, 0, []) (List.mem_of_getElem? (i := 204) rfl)) rfl rfl ?_
                            refine zp_store (L' := [(12, 1, 0), (10, 1, v1), (4, 0, ((d : Int) + 1)), (8, 1, v2), (7, 0, (C (b + 1))), (6, 0, 13), (5, 0, (b : Int)), (0, 2, (a : Int)), (1, 2, (xt9 : Int)), (2, 0, (i2 : Int)), (3, 2, (wd9 : Int))]) (pc := 429) hx hb hnL (zd_X6_value (429, .lstore 12, 2, 0, []) (List.mem_of_getElem? (i := 205) rfl)) rfl rfl rfl ?_
                            refine zp_load (pc := 431) hx hb (zd_X6_value (431, .lload 12, 2, 0, []) (List.mem_of_getElem? (i := 206) rfl)) rfl (j := 0) rfl ?_
                            refine zp_ldc2 (pc := 433) hx hb hE (zd_X6_value (433, .ldc2_w 89, 3, 0, []) (List.mem_of_getElem? (i := 207) rfl)) (j := 13) rfl ?_
                            refine zp_lcmp (pc := 436) (tgt := 449) hx hb (zd_X6_value (436, .lcmp, 1, 0, []) (List.mem_of_getElem? (i := 208) rfl)) (zd_X6_value (437, .ifCond .gt 12, 3, 0, []) (List.mem_of_getElem? (i := 209) rfl)) rfl (fun (hc540 : 1000000000 < 0) => ?_) (fun (hc540 : ¬ (1000000000 < 0)) => ?_)
                            · exfalso
                              omega
                            · refine zp_load (pc := 440) hx hb (zd_X6_value (440, .lload 12, 2, 0, []) (List.mem_of_getElem? (i := 210) rfl)) rfl (j := 0) rfl ?_
                              refine zp_ldc2 (pc := 442) hx hb hE (zd_X6_value (442, .ldc2_w 91, 3, 0, []) (List.mem_of_getElem? (i := 211) rfl)) (j := 14) rfl ?_
                              refine zp_lcmp (pc := 445) (tgt := 453) hx hb (zd_X6_value (445, .lcmp, 1, 0, []) (List.mem_of_getElem? (i := 212) rfl)) (zd_X6_value (446, .ifCond .ge 7, 3, 0, []) (List.mem_of_getElem? (i := 213) rfl)) rfl (fun (hc541 : (-1000000000) ≤ 0) => ?_) (fun (hc541 : ¬ ((-1000000000) ≤ 0)) => ?_)
                              · refine zp_load (pc := 453) hx hb (zd_X6_value (453, .aload_n 0, 1, 0, []) (List.mem_of_getElem? (i := 216) rfl)) rfl (j := 7) rfl ?_
                                refine zp_getf (n := (st : Int)) (pc := 454) hx hb hE hw (zd_X6_value (454, .getfield 15, 3, 0, []) (List.mem_of_getElem? (i := 217) rfl)) (j := 5) rfl rfl rfl hp hm.1 ?_
                                refine zp_load (pc := 457) hx hb (zd_X6_value (457, .iload 4, 2, 0, []) (List.mem_of_getElem? (i := 218) rfl)) rfl (j := 2) rfl ?_
                                refine zp_const (pc := 459) hx hb (zd_X6_value (459, .iconst 1, 1, 0, []) (List.mem_of_getElem? (i := 219) rfl)) rfl rfl ?_
                                refine zp_sub (n := (d : Int)) (pc := 460) hx hb (zd_X6_value (460, .isub, 1, 0, []) (List.mem_of_getElem? (i := 220) rfl)) (by omega) (zp_r0 (by omega) (by omega)) ?_
                                refine zp_load (pc := 461) hx hb (zd_X6_value (461, .lload 12, 2, 0, []) (List.mem_of_getElem? (i := 221) rfl)) rfl (j := 0) rfl ?_
                                refine zp_last (j := d) (pc := 463) hx hb hw heff (zd_X6_value (463, .lastore, 1, 0, []) (List.mem_of_getElem? (i := 222) rfl)) (show zp_ia 2 28 = some (64, 1, 0, (-9223372036854775808), 9223372036854775807) from rfl) qst (by omega) (by omega) rfl ?_
                                refine zp_iinc (L' := [(5, 0, ((b : Int) + 2)), (12, 1, 0), (10, 1, v1), (4, 0, ((d : Int) + 1)), (8, 1, v2), (7, 0, (C (b + 1))), (6, 0, 13), (0, 2, (a : Int)), (1, 2, (xt9 : Int)), (2, 0, (i2 : Int)), (3, 2, (wd9 : Int))]) (n := ((b : Int) + 2)) (pc := 464) hx hb hnL (zd_X6_value (464, .iinc 5 2, 3, 0, []) (List.mem_of_getElem? (i := 223) rfl)) (j := 6) rfl (by omega) (zp_r0 (by omega) (by omega)) rfl rfl ?_
                                refine zp_goto (tgt := 13) (pc := 467) hx hb (zd_X6_value (467, .goto (-454), 3, 0, []) (List.mem_of_getElem? (i := 224) rfl)) rfl ?_
                                refine zp_drop (L' := [(4, 0, ((d : Int) + 1)), (5, 0, ((b : Int) + 2)), (0, 2, (a : Int)), (1, 2, (xt9 : Int)), (2, 0, (i2 : Int)), (3, 2, (wd9 : Int))]) (by simp) ?_
                                exact kk 0 _ (zg_bns (fun h => absurd h.1 (by decide)) (by first | exact (zg_v27 v1 v2).1 (by omega) | exact (zg_v27 v1 v2).2 (by omega)) (by omega) (by omega)) (zgV_s hm n1 n2 n3 n4) (fun j hj => zp_set_ne (Or.inr (by omega))) zp_set_self
                              · exfalso
                                omega
                          · refine zp_const (pc := 424) hx hb (zd_X6_value (424, .lconst 1, 1, 0, []) (List.mem_of_getElem? (i := 202) rfl)) rfl rfl ?_
                            refine zp_goto (tgt := 429) (pc := 425) hx hb (zd_X6_value (425, .goto 4, 3, 0, []) (List.mem_of_getElem? (i := 203) rfl)) rfl ?_
                            refine zp_store (L' := [(12, 1, 1), (10, 1, v1), (4, 0, ((d : Int) + 1)), (8, 1, v2), (7, 0, (C (b + 1))), (6, 0, 13), (5, 0, (b : Int)), (0, 2, (a : Int)), (1, 2, (xt9 : Int)), (2, 0, (i2 : Int)), (3, 2, (wd9 : Int))]) (pc := 429) hx hb hnL (zd_X6_value (429, .lstore 12, 2, 0, []) (List.mem_of_getElem? (i := 205) rfl)) rfl rfl rfl ?_
                            refine zp_load (pc := 431) hx hb (zd_X6_value (431, .lload 12, 2, 0, []) (List.mem_of_getElem? (i := 206) rfl)) rfl (j := 0) rfl ?_
                            refine zp_ldc2 (pc := 433) hx hb hE (zd_X6_value (433, .ldc2_w 89, 3, 0, []) (List.mem_of_getElem? (i := 207) rfl)) (j := 13) rfl ?_
                            refine zp_lcmp (pc := 436) (tgt := 449) hx hb (zd_X6_value (436, .lcmp, 1, 0, []) (List.mem_of_getElem? (i := 208) rfl)) (zd_X6_value (437, .ifCond .gt 12, 3, 0, []) (List.mem_of_getElem? (i := 209) rfl)) rfl (fun (hc542 : 1000000000 < 1) => ?_) (fun (hc542 : ¬ (1000000000 < 1)) => ?_)
                            · exfalso
                              omega
                            · refine zp_load (pc := 440) hx hb (zd_X6_value (440, .lload 12, 2, 0, []) (List.mem_of_getElem? (i := 210) rfl)) rfl (j := 0) rfl ?_
                              refine zp_ldc2 (pc := 442) hx hb hE (zd_X6_value (442, .ldc2_w 91, 3, 0, []) (List.mem_of_getElem? (i := 211) rfl)) (j := 14) rfl ?_
                              refine zp_lcmp (pc := 445) (tgt := 453) hx hb (zd_X6_value (445, .lcmp, 1, 0, []) (List.mem_of_getElem? (i := 212) rfl)) (zd_X6_value (446, .ifCond .ge 7, 3, 0, []) (List.mem_of_getElem? (i := 213) rfl)) rfl (fun (hc543 : (-1000000000) ≤ 1) => ?_) (fun (hc543 : ¬ ((-1000000000) ≤ 1)) => ?_)
                              · refine zp_load (pc := 453) hx hb (zd_X6_value (453, .aload_n 0, 1, 0, []) (List.mem_of_getElem? (i := 216) rfl)) rfl (j := 7) rfl ?_
                                refine zp_getf (n := (st : Int)) (pc := 454) hx hb hE hw (zd_X6_value (454, .getfield 15, 3, 0, []) (List.mem_of_getElem? (i := 217) rfl)) (j := 5) rfl rfl rfl hp hm.1 ?_
                                refine zp_load (pc := 457) hx hb (zd_X6_value (457, .iload 4, 2, 0, []) (List.mem_of_getElem? (i := 218) rfl)) rfl (j := 2) rfl ?_
                                refine zp_const (pc := 459) hx hb (zd_X6_value (459, .iconst 1, 1, 0, []) (List.mem_of_getElem? (i := 219) rfl)) rfl rfl ?_
                                refine zp_sub (n := (d : Int)) (pc := 460) hx hb (zd_X6_value (460, .isub, 1, 0, []) (List.mem_of_getElem? (i := 220) rfl)) (by omega) (zp_r0 (by omega) (by omega)) ?_
                                refine zp_load (pc := 461) hx hb (zd_X6_value (461, .lload 12, 2, 0, []) (List.mem_of_getElem? (i := 221) rfl)) rfl (j := 0) rfl ?_
                                refine zp_last (j := d) (pc := 463) hx hb hw heff (zd_X6_value (463, .lastore, 1, 0, []) (List.mem_of_getElem? (i := 222) rfl)) (show zp_ia 2 28 = some (64, 1, 0, (-9223372036854775808), 9223372036854775807) from rfl) qst (by omega) (by omega) rfl ?_
                                refine zp_iinc (L' := [(5, 0, ((b : Int) + 2)), (12, 1, 1), (10, 1, v1), (4, 0, ((d : Int) + 1)), (8, 1, v2), (7, 0, (C (b + 1))), (6, 0, 13), (0, 2, (a : Int)), (1, 2, (xt9 : Int)), (2, 0, (i2 : Int)), (3, 2, (wd9 : Int))]) (n := ((b : Int) + 2)) (pc := 464) hx hb hnL (zd_X6_value (464, .iinc 5 2, 3, 0, []) (List.mem_of_getElem? (i := 223) rfl)) (j := 6) rfl (by omega) (zp_r0 (by omega) (by omega)) rfl rfl ?_
                                refine zp_goto (tgt := 13) (pc := 467) hx hb (zd_X6_value (467, .goto (-454), 3, 0, []) (List.mem_of_getElem? (i := 224) rfl)) rfl ?_
                                refine zp_drop (L' := [(4, 0, ((d : Int) + 1)), (5, 0, ((b : Int) + 2)), (0, 2, (a : Int)), (1, 2, (xt9 : Int)), (2, 0, (i2 : Int)), (3, 2, (wd9 : Int))]) (by simp) ?_
                                exact kk 1 _ (zg_bns (fun h => absurd h.1 (by decide)) (by first | exact (zg_v27 v1 v2).1 (by omega) | exact (zg_v27 v1 v2).2 (by omega)) (by omega) (by omega)) (zgV_s hm n1 n2 n3 n4) (fun j hj => zp_set_ne (Or.inr (by omega))) zp_set_self
                              · exfalso
                                omega
                        · exfalso
                          omega
                      · exfalso
                        omega
                  · exfalso
                    omega
                · exfalso
                  omega
              · exfalso
                omega
            · exfalso
              omega
  have run : ∀ (f b e1 k9 : Nat) (y : yD), yG true C f b e1 k9 y → e1 ≤ e9 → ∀ (d : Nat) (S : Nat → Int) (G : Nat → Nat → Int), d + k9 ≤ 60 → (∀ j, j < d → -2147483648 ≤ S j ∧ S j ≤ 2147483648) → zgV a xt9 cd st wd9 N C Wd G → (∀ j, j < d → G st (2000 + j) = S j) → (∀ (v : Int) (G' : Nat → Nat → Int), y en = some v → -2147483648 ≤ v ∧ v ≤ 2147483648 → zgV a xt9 cd st wd9 N C Wd G' → (∀ j, j < d → G' st (2000 + j) = S j) → G' st (2000 + d) = v → zp_J p l e R s m args below meth c Q w u [] 13 [(4, 0, ((d + 1 : Nat) : Int)), (5, 0, ((e1 : Nat) : Int)), (0, 2, (a : Int)), (1, 2, (xt9 : Int)), (2, 0, (i2 : Int)), (3, 2, (wd9 : Int))] [] u.1 G') → (y en = none → x en = none) → zp_J p l e R s m args below meth c Q w u [] 13 [(4, 0, ((d : Nat) : Int)), (5, 0, ((b : Nat) : Int)), (0, 2, (a : Int)), (1, 2, (xt9 : Int)), (2, 0, (i2 : Int)), (3, 2, (wd9 : Int))] [] u.1 G := by
    clear exitv
    intro f
    induction f with
    | zero => intro b e1 k9 y h; exact h.elim
    | succ f ih =>
      intro b e1 k9 y h he1 d S G hd hS hm hst kv kb
      have hlt := yG_lt h
      rcases h with ⟨g1, g2, g3, g5⟩ | ⟨m9, e2, k1, k2, y1, y2, g1, g2, g3, g4, g5, g6, g7⟩ | ⟨e2, y1, g1, g2, g3, g4, g5⟩ | ⟨m9, k1, k2, y1, y2, g1, g2, g3, g4, g5, g6, g7⟩ | ⟨m9, k1, k2, y1, y2, g1, g2, g3, g4, g5, g6, g7⟩
      · have hv := hen (C b) (C (b + 1)) g3
        have hyv : y en = some (en (yl_o true (C b) (C (b + 1))) (yl_a true (C b) (C (b + 1)))) := by rw [g5]; rfl
        rw [hv] at hyv
        subst g1
        rcases g3 with ⟨c1, c2, c3⟩ | ⟨c1, c2, c3⟩
        · rw [if_pos c1] at hyv
          exact step_l1 b d (C (b + 1)) G (by omega) (by omega) hm c1 rfl (fun G' m' s' t' => kv _ G' hyv (by omega) m' (fun j hj => (s' j hj).trans (hst j hj)) t')
        · rw [if_neg (by omega)] at hyv
          obtain ⟨vq, hvq⟩ := zp_nat c2
          have c3 : C (b + 1) < 21 := c3
          rw [hvq, Int.toNat_natCast] at hyv
          exact step_l2 b d vq G (by omega) (by omega) hm c1 hvq (by omega) (fun G' m' s' t' => kv _ G' hyv (hWd vq (by omega)) m' (fun j hj => (s' j hj).trans (hst j hj)) t')
      · have l1 := yG_lt g2
        have l2 := yG_lt g3
        subst g1
        have hyn1 : y1 en = none → x en = none := fun hn => kb (by
          rw [g7]
          show ((y1 en).bind fun a => (y2 en).bind fun b => yd_bn (C e2 + 14) a b) = none
          rw [hn]
          rfl)
        refine ih b m9 k1 y1 g2 (by omega) d S G (by omega) hS hm hst (fun v1 G1 c1 c2 m1 c4 c5 => ?_) hyn1
        have hyn2 : y2 en = none → x en = none := fun hn => kb (by
          rw [g7]
          show ((y1 en).bind fun a => (y2 en).bind fun b => yd_bn (C e2 + 14) a b) = none
          rw [c1, hn]
          rfl)
        refine ih m9 e2 k2 y2 g3 (by omega) (d + 1) (fun j => if j = d then v1 else S j) G1 (by omega) (fun j hj => ?_) m1 (fun j hj => ?_) (fun v2 G2 b1 b2 m2 b4 b5 => ?_) hyn2
        · by_cases hjd : j = d
          · rw [if_pos hjd]
            exact c2
          · rw [if_neg hjd]
            exact hS j (by omega)
        · by_cases hjd : j = d
          · rw [if_pos hjd, hjd]
            exact c5
          · rw [if_neg hjd]
            exact c4 j (by omega)
        · have s4 : ∀ j, j < d → G2 st (2000 + j) = S j := fun j hj => (b4 j (by omega)).trans (if_neg (by omega))
          have s5 : G2 st (2000 + d) = v1 := (b4 d (by omega)).trans (if_pos rfl)
          have hb9 : ∀ r, yd_bn (C e2 + 14) v1 v2 = r → y en = r := fun r hr => by
            rw [g7]
            show ((y1 en).bind fun a => (y2 en).bind fun b => yd_bn (C e2 + 14) a b) = r
            rw [c1, b1]
            exact hr
          have hop : C e2 = 6 ∨ C e2 = 7 ∨ C e2 = 8 ∨ C e2 = 9 ∨ C e2 = 10 ∨ C e2 = 11 ∨ C e2 = 12 ∨ C e2 = 13 := by omega
          have hkv : ∀ (v : Int) (G' : Nat → Nat → Int), yd_bn (C e2 + 14) v1 v2 = some v → zgV a xt9 cd st wd9 N C Wd G' → (∀ j, j < d → G' st (2000 + j) = G2 st (2000 + j)) → G' st (2000 + d) = v → zp_J p l e R s m args below meth c Q w u [] 13 [(4, 0, ((d + 1 : Nat) : Int)), (5, 0, ((e2 + 2 : Nat) : Int)), (0, 2, (a : Int)), (1, 2, (xt9 : Int)), (2, 0, (i2 : Int)), (3, 2, (wd9 : Int))] [] u.1 G' := fun v G' a1 a2 a4 a5 => kv v G' (hb9 _ a1) (by have := zg_bnr a1; omega) a2 (fun j hj => (a4 j hj).trans (s4 j hj)) a5
          have hkb : yd_bn (C e2 + 14) v1 v2 = none → x en = none := fun a1 => kb (hb9 _ a1)
          rcases hop with hop | hop | hop | hop | hop | hop | hop | hop
          · rw [hop] at hkv hkb
            exact step_6 e2 d v1 v2 G2 (by omega) (by omega) m2 hop s5 b5 c2 b2 hkv hkb
          · rw [hop] at hkv hkb
            exact step_7 e2 d v1 v2 G2 (by omega) (by omega) m2 hop s5 b5 c2 b2 hkv hkb
          · rw [hop] at hkv hkb
            exact step_8 e2 d v1 v2 G2 (by omega) (by omega) m2 hop s5 b5 c2 b2 hkv hkb
          · rw [hop] at hkv hkb
            exact step_9 e2 d v1 v2 G2 (by omega) (by omega) m2 hop s5 b5 c2 b2 hkv hkb
          · rw [hop] at hkv hkb
            exact step_10 e2 d v1 v2 G2 (by omega) (by omega) m2 hop s5 b5 c2 b2 hkv hkb
          · rw [hop] at hkv hkb
            exact step_11 e2 d v1 v2 G2 (by omega) (by omega) m2 hop s5 b5 c2 b2 hkv hkb
          · rw [hop] at hkv hkb
            exact step_12 e2 d v1 v2 G2 (by omega) (by omega) m2 hop s5 b5 c2 b2 hkv hkb
          · rw [hop] at hkv hkb
            exact step_13 e2 d v1 v2 G2 (by omega) (by omega) m2 hop s5 b5 c2 b2 hkv hkb
      · have l1 := yG_lt g2
        subst g1
        refine ih b e2 k9 y1 g2 (by omega) d S G (by omega) hS hm hst (fun v1 G1 c1 c2 m1 c4 c5 => ?_) (fun hn => kb (by
          rw [g5]
          show ((y1 en).bind fun v => some (1 - v)) = none
          rw [hn]
          rfl))
        have ht := g4 en v1 c1
        refine step_nt e2 d v1 G1 (by omega) (by omega) m1 g3 c5 c2 (fun G' a1 a3 a4 => kv (1 - v1) G' ?_ (by omega) a1 (fun j hj => (a3 j hj).trans (c4 j hj)) a4)
        rw [g5]
        show ((y1 en).bind fun v => some (1 - v)) = _
        rw [c1]
        rfl
      · have l1 := yG_lt g1
        have l2 := yG_lt g4
        refine ih b m9 k1 y1 g1 (by omega) d S G (by omega) hS hm hst (fun v1 G1 c1 c2 m1 c4 c5 => ?_) (fun hn => kb (by
          rw [g7]
          show ((y1 en).bind fun v => if v = 0 then some 0 else y2 en) = none
          rw [hn]
          rfl))
        have hb9 : y en = if v1 = 0 then some 0 else y2 en := by
          rw [g7]
          show ((y1 en).bind fun v => if v = 0 then some 0 else y2 en) = _
          rw [c1]
          rfl
        refine step_b4 m9 d e1 v1 G1 (by omega) (by omega) (by omega) (by omega) m1 g2 g3 c5 (g5 en v1 c1) (fun hv => ?_) (fun hv => ?_)
        · refine kv v1 G1 ?_ c2 m1 c4 c5
          rw [hb9, if_pos hv, hv]
        · rw [if_neg hv] at hb9
          exact ih (m9 + 2) e1 k2 y2 g4 he1 d S G1 (by omega) hS m1 c4 (fun v G' a1 a2 a3 a5 a6 => kv v G' (hb9.trans a1) a2 a3 a5 a6) (fun hn => kb (hb9.trans hn))
      · have l1 := yG_lt g1
        have l2 := yG_lt g4
        refine ih b m9 k1 y1 g1 (by omega) d S G (by omega) hS hm hst (fun v1 G1 c1 c2 m1 c4 c5 => ?_) (fun hn => kb (by
          rw [g7]
          show ((y1 en).bind fun v => if v = 1 then some 1 else y2 en) = none
          rw [hn]
          rfl))
        have hb9 : y en = if v1 = 1 then some 1 else y2 en := by
          rw [g7]
          show ((y1 en).bind fun v => if v = 1 then some 1 else y2 en) = _
          rw [c1]
          rfl
        refine step_b5 m9 d e1 v1 G1 (by omega) (by omega) (by omega) (by omega) m1 g2 g3 c5 (g5 en v1 c1) (fun hv => ?_) (fun hv => ?_)
        · refine kv v1 G1 ?_ c2 m1 c4 c5
          rw [hb9, if_pos hv, hv]
        · rw [if_neg hv] at hb9
          exact ih (m9 + 2) e1 k2 y2 g4 he1 d S G1 (by omega) hS m1 c4 (fun v G' a1 a2 a3 a5 a6 => kv v G' (hb9.trans a1) a2 a3 a5 a6) (fun hn => kb (hb9.trans hn))
  have hl0 := yG_lt hE0
  show zp_J p l e R s m args below meth c Q w u [] 0 [(0, 2, (a : Int)), (1, 2, (xt9 : Int)), (2, 0, (i2 : Int)), (3, 2, (wd9 : Int))] [] u.1 (zp_n u.2.1)
  refine zp_load (pc := 0) hx hb (zd_X6_value (0, .iload_n 2, 1, 0, []) (List.mem_of_getElem? (i := 0) rfl)) rfl (j := 2) rfl ?_
  refine zp_const (pc := 1) hx hb (zd_X6_value (1, .iconst (-1), 1, 0, []) (List.mem_of_getElem? (i := 1) rfl)) rfl rfl ?_
  refine zp_icmp (pc := 2) (tgt := 7) hx hb (zd_X6_value (2, .if_icmp .ne 5, 3, 0, []) (List.mem_of_getElem? (i := 2) rfl)) rfl (fun (hc544 : ¬ (i2 : Int) = (-1)) => ?_) (fun (hc544 : ¬ (¬ (i2 : Int) = (-1))) => ?_)
  · refine zp_const (pc := 7) hx hb (zd_X6_value (7, .iconst 0, 1, 0, []) (List.mem_of_getElem? (i := 5) rfl)) rfl rfl ?_
    refine zp_store (L' := [(4, 0, 0), (0, 2, (a : Int)), (1, 2, (xt9 : Int)), (2, 0, (i2 : Int)), (3, 2, (wd9 : Int))]) (pc := 8) hx hb hnL (zd_X6_value (8, .istore 4, 2, 0, []) (List.mem_of_getElem? (i := 6) rfl)) rfl rfl rfl ?_
    refine zp_load (pc := 10) hx hb (zd_X6_value (10, .iload_n 2, 1, 0, []) (List.mem_of_getElem? (i := 7) rfl)) rfl (j := 3) rfl ?_
    refine zp_store (L' := [(5, 0, (i2 : Int)), (4, 0, 0), (0, 2, (a : Int)), (1, 2, (xt9 : Int)), (2, 0, (i2 : Int)), (3, 2, (wd9 : Int))]) (pc := 11) hx hb hnL (zd_X6_value (11, .istore 5, 2, 0, []) (List.mem_of_getElem? (i := 8) rfl)) rfl rfl rfl ?_
    refine zp_drop (L' := [(4, 0, 0), (5, 0, (i2 : Int)), (0, 2, (a : Int)), (1, 2, (xt9 : Int)), (2, 0, (i2 : Int)), (3, 2, (wd9 : Int))]) (by simp) ?_
    refine run f i2 e9 k x hE0 (Nat.le_refl _) 0 (fun _ => 0) _ (by omega) (fun j hj => absurd hj (Nat.not_lt_zero j)) hm0 (fun j hj => absurd hj (Nat.not_lt_zero j)) (fun v G' c1 c2 c3 _ c6 => exitv v G' c3 c6 c2 c1) (fun h => h)
  · exfalso
    omega
