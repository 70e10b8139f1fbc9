/-! part d2: the class's text -/
noncomputable def zp_lkTx : List zk_L := zt_lk_WoundTown_Text.map (fun r => r.1)
noncomputable def zp_lcTx : List (Nat × Nat × Nat) := zt_lc_WoundTown_Text.map (fun r => r.1)
theorem zp_lkallTx : (zp_lkTx.all (zt_lkin "WoundTown$Text") && zp_lcTx.all (zt_lcin "WoundTown$Text")) = true := by decide +kernel
noncomputable def zK_vad : zk_K := (zt_mn 66, prog_10_method_6_code, 4, (Option.some Jvm.ClassFile.FieldType.int), 1, 8, [(2, 8, 0, 0), (0, 0, 0, 13), (0, 0, 0, 1000)], [(some (0, 0, 0, 872), [])], [(8, 7, 0), (35, 1001, 0)], (0, 0, 0, 0))
noncomputable def zφ_vad (cd sz : Nat) (C : Nat → Int) : (Nat → Option Nat) → (Nat → Nat → Int) → List Int → Prop := fun P G ps => (G (zp_0 ps) 7 = (sz : Int) ∧ sz + 2 ≤ 872) ∧ G (zp_0 ps) 5 = (cd : Int) ∧ P cd = some 35 ∧ ∀ j, G cd (2000 + j) = C j
noncomputable def zψ_vad (cd sz : Nat) (C : Nat → Int) : (Nat → Option Nat) → (Nat → Nat → Int) → List Int → (Nat → Option Nat) → (Nat → Nat → Int) → Int → Prop := fun P G ps P' G' rn => P' = P ∧ rn = (sz : Int) ∧ G' (zp_0 ps) 7 = ((sz + 2 : Nat) : Int) ∧ ∀ j, G' cd (2000 + j) = yh C sz (ps.getD 1 0) (ps.getD 2 0) j
theorem zX_vad {l : Launch} {w : zk_W} (hW : zh_W w) (cd sz : Nat) (C : Nat → Int) : zk_metX l w zt_dv zt_TB zK_vad (zp_A (zφ_vad cd sz C)) (zp_B (zψ_vad cd sz C)) ∧ zk_cok w zt_TB zK_vad := by
  refine zp_methX (cn := "WoundTown$Text") zp_lkallTx hW (pl := 822) rfl (by decide +kernel) (fun p e R s m args below meth c Q u hx hb hE hQ hU5 heff hnL hok hφ => ?_)
  have hw := hW.1
  obtain ⟨p0, p1, p2, hps, k0, k1, k2⟩ := zp_ps3 hok
  obtain ⟨a, rfl, hp⟩ := zp_this k0
  have hrm : zk_Kr (zk_ev (zt_types, zp_lkTx, zt_dv, [], [], zp_lcTx, zK_vad)) = zk_Kr zK_vad := rfl
  rw [hps] at hφ ⊢
  have hi1 := zp_int k1
  have hi2 := zp_int k2
  show zp_J p l e R s m args below meth c Q w u [] 0 [(0, 2, (a : Int)), (1, 0, p1), (2, 0, p2)] [] u.1 (zp_n u.2.1)
  obtain ⟨⟨g7, hs⟩, g5, pc, hC⟩ : (zp_n u.2.1 a 7 = (sz : Int) ∧ sz + 2 ≤ 872) ∧ zp_n u.2.1 a 5 = (cd : Int) ∧ u.1 cd = some 35 ∧ ∀ j, zp_n u.2.1 cd (2000 + j) = C j := hφ
  refine zp_load (pc := 0) hx hb (zd_X8_add (0, .aload_n 0, 1, 0, []) (List.mem_of_getElem? (i := 0) rfl)) rfl (j := 0) rfl ?_
  refine zp_getf (n := (sz : Int)) (pc := 1) hx hb hE hw (zd_X8_add (1, .getfield 45, 3, 0, []) (List.mem_of_getElem? (i := 1) rfl)) (j := 10) rfl rfl rfl hp g7 ?_
  refine zp_store (L' := [(3, 0, (sz : Int)), (0, 2, (a : Int)), (1, 0, p1), (2, 0, p2)]) (pc := 4) hx hb hnL (zd_X8_add (4, .istore_n 3, 1, 0, []) (List.mem_of_getElem? (i := 2) rfl)) rfl rfl rfl ?_
  refine zp_load (pc := 5) hx hb (zd_X8_add (5, .iload_n 3, 1, 0, []) (List.mem_of_getElem? (i := 3) rfl)) rfl (j := 0) rfl ?_
  refine zp_const (pc := 6) hx hb (zd_X8_add (6, .iconst 1, 1, 0, []) (List.mem_of_getElem? (i := 4) rfl)) rfl rfl ?_
  refine zp_add (n := ((sz : Int) + 1)) (pc := 7) hx hb (zd_X8_add (7, .iadd, 1, 0, []) (List.mem_of_getElem? (i := 5) rfl)) (by omega) (zp_r0 (by omega) (by omega)) ?_
  refine zp_load (pc := 8) hx hb (zd_X8_add (8, .aload_n 0, 1, 0, []) (List.mem_of_getElem? (i := 6) rfl)) rfl (j := 1) rfl ?_
  refine zp_getf (n := (cd : Int)) (pc := 9) hx hb hE hw (zd_X8_add (9, .getfield 38, 3, 0, []) (List.mem_of_getElem? (i := 7) rfl)) (j := 8) rfl rfl rfl hp g5 ?_
  refine zu_alen (len := 872) (pc := 12) hx hb hw (zd_X8_add (12, .arraylength, 1, 0, []) (List.mem_of_getElem? (i := 8) rfl)) pc ⟨_, rfl, by decide, rfl, rfl⟩ (by decide) ?_
  refine zp_icmp (pc := 13) (tgt := 39) hx hb (zd_X8_add (13, .if_icmp .ge 26, 3, 0, []) (List.mem_of_getElem? (i := 9) rfl)) rfl (fun (hc21 : 872 ≤ ((sz : Int) + 1)) => ?_) (fun (hc21 : ¬ (872 ≤ ((sz : Int) + 1))) => ?_)
  · refine zp_load (pc := 39) hx hb (zd_X8_add (39, .iload_n 3, 1, 0, []) (List.mem_of_getElem? (i := 27) rfl)) rfl (j := 0) rfl ?_
    exfalso
    omega
  · refine zp_load (pc := 16) hx hb (zd_X8_add (16, .aload_n 0, 1, 0, []) (List.mem_of_getElem? (i := 10) rfl)) rfl (j := 1) rfl ?_
    refine zp_getf (n := (cd : Int)) (pc := 17) hx hb hE hw (zd_X8_add (17, .getfield 38, 3, 0, []) (List.mem_of_getElem? (i := 11) rfl)) (j := 8) rfl rfl rfl hp g5 ?_
    refine zp_load (pc := 20) hx hb (zd_X8_add (20, .iload_n 3, 1, 0, []) (List.mem_of_getElem? (i := 12) rfl)) rfl (j := 0) rfl ?_
    refine zp_load (pc := 21) hx hb (zd_X8_add (21, .iload_n 1, 1, 0, []) (List.mem_of_getElem? (i := 13) rfl)) rfl (j := 2) rfl ?_
    refine zp_iast (j := sz) (pc := 22) hx hb hw heff (zd_X8_add (22, .iastore, 1, 0, []) (List.mem_of_getElem? (i := 14) rfl)) (show zp_ia 1 35 = some (872, 0, 0, (-1000000), 1000000) from rfl) pc (by omega) (by omega) (zp_o0 (by omega) (by omega) (by omega) (by omega)) rfl ?_
    refine zp_load (pc := 23) hx hb (zd_X8_add (23, .aload_n 0, 1, 0, []) (List.mem_of_getElem? (i := 15) rfl)) rfl (j := 1) rfl ?_
    refine zp_getf (n := (cd : Int)) (pc := 24) hx hb hE hw (zd_X8_add (24, .getfield 38, 3, 0, []) (List.mem_of_getElem? (i := 16) rfl)) (j := 8) rfl rfl rfl hp ((zp_set_ne (Or.inl (zp_pne hp pc (by decide)))).trans (g5)) ?_
    refine zp_load (pc := 27) hx hb (zd_X8_add (27, .iload_n 3, 1, 0, []) (List.mem_of_getElem? (i := 17) rfl)) rfl (j := 0) rfl ?_
    refine zp_const (pc := 28) hx hb (zd_X8_add (28, .iconst 1, 1, 0, []) (List.mem_of_getElem? (i := 18) rfl)) rfl rfl ?_
    refine zp_add (n := ((sz : Int) + 1)) (pc := 29) hx hb (zd_X8_add (29, .iadd, 1, 0, []) (List.mem_of_getElem? (i := 19) rfl)) (by omega) (zp_r0 (by omega) (by omega)) ?_
    refine zp_load (pc := 30) hx hb (zd_X8_add (30, .iload_n 2, 1, 0, []) (List.mem_of_getElem? (i := 20) rfl)) rfl (j := 3) rfl ?_
    refine zp_iast (j := (sz + 1)) (pc := 31) hx hb hw heff (zd_X8_add (31, .iastore, 1, 0, []) (List.mem_of_getElem? (i := 21) rfl)) (show zp_ia 1 35 = some (872, 0, 0, (-1000000), 1000000) from rfl) pc (by omega) (by omega) (zp_o0 (by omega) (by omega) (by omega) (by omega)) rfl ?_
    refine zp_load (pc := 32) hx hb (zd_X8_add (32, .aload_n 0, 1, 0, []) (List.mem_of_getElem? (i := 22) rfl)) rfl (j := 1) rfl ?_
    refine zp_load (pc := 33) hx hb (zd_X8_add (33, .iload_n 3, 1, 0, []) (List.mem_of_getElem? (i := 23) rfl)) rfl (j := 0) rfl ?_
    refine zp_const (pc := 34) hx hb (zd_X8_add (34, .iconst 2, 1, 0, []) (List.mem_of_getElem? (i := 24) rfl)) rfl rfl ?_
    refine zp_add (n := ((sz : Int) + 2)) (pc := 35) hx hb (zd_X8_add (35, .iadd, 1, 0, []) (List.mem_of_getElem? (i := 25) rfl)) (by omega) (zp_r0 (by omega) (by omega)) ?_
    refine zp_putf (pc := 36) hx hb hE hw heff (zd_X8_add (36, .putfield 45, 3, 0, []) (List.mem_of_getElem? (i := 26) rfl)) (j := 10) rfl rfl rfl hp (zp_o0 (by omega) (by omega) (by omega) (by omega)) ?_
    refine zp_load (pc := 39) hx hb (zd_X8_add (39, .iload_n 3, 1, 0, []) (List.mem_of_getElem? (i := 27) rfl)) rfl (j := 0) rfl ?_
    refine zp_iret (pc := 40) (n := (sz : Int)) hx hb hE hQ hU5 rfl (by decide) (zd_X8_add (40, .ireturn, 1, 0, []) (List.mem_of_getElem? (i := 28) rfl)) (j := 0) rfl (zp_o0 (by omega) (by omega) (by omega) (by omega)) ?_
    rw [hps]
    refine ⟨rfl, rfl, ?_, ?_⟩
    · exact (zp_set_self).trans (by omega)
    · intro j
      show (zp_set (zp_set (zp_set (zp_n u.2.1) cd (2000 + sz) p1) cd (2000 + (sz + 1)) p2) a 7 ((sz : Int) + 2)) cd (2000 + j) = yh C sz p1 p2 j
      have hca : cd ≠ a := zp_pne pc hp (by decide)
      rw [zp_set_ne (Or.inl hca)]
      unfold yh
      by_cases h1 : j = sz + 1
      · subst h1
        exact (zp_set_self).trans yu_at.symm
      · rw [zp_set_ne (Or.inr (by omega)), yu_ne h1]
        by_cases h2 : j = sz
        · subst h2
          exact (zp_set_self).trans yu_at.symm
        · rw [zp_set_ne (Or.inr (by omega)), yu_ne h2]
          exact hC j
noncomputable def zK_vlp : zk_K := (zt_mn 76, prog_10_method_7_code, 2, (Option.none : Option Jvm.ClassFile.FieldType), 1, 8, [(2, 8, 0, 0), (0, 0, 0, 872)], [(none, [])], [(35, 1001, 0)], (0, 0, 0, 0))
noncomputable def zφ_vlp (cd sz n : Nat) (C : Nat → Int) : (Nat → Option Nat) → (Nat → Nat → Int) → List Int → Prop := fun P G ps => (G (zp_0 ps) 7 = (sz : Int) ∧ sz ≤ 872 ∧ ps.getD 1 0 = (n : Int) ∧ n + 2 ≤ 872) ∧ G (zp_0 ps) 5 = (cd : Int) ∧ P cd = some 35 ∧ ∀ j, G cd (2000 + j) = C j
noncomputable def zψ_vlp (cd sz n : Nat) (C : Nat → Int) : (Nat → Option Nat) → (Nat → Nat → Int) → List Int → (Nat → Option Nat) → (Nat → Nat → Int) → Int → Prop := fun P G ps P' G' rn => P' = P ∧ ∀ j, G' cd (2000 + j) = yu C (n + 1) (sz : Int) j
theorem zX_vlp {l : Launch} {w : zk_W} (hW : zh_W w) (cd sz n : Nat) (C : Nat → Int) : zk_metX l w zt_dv zt_TB zK_vlp (zp_A (zφ_vlp cd sz n C)) (zp_B (zψ_vlp cd sz n C)) ∧ zk_cok w zt_TB zK_vlp := by
  refine zp_methX (cn := "WoundTown$Text") zp_lkallTx hW (pl := 868) rfl (by decide +kernel) (fun p e R s m args below meth c Q u hx hb hE hQ hU5 heff hnL hok hφ => ?_)
  have hw := hW.1
  obtain ⟨p0, p1, hps, k0, k1⟩ := zp_ps2 hok
  obtain ⟨a, rfl, hp⟩ := zp_this k0
  have hrm : zk_Kr (zk_ev (zt_types, zp_lkTx, zt_dv, [], [], zp_lcTx, zK_vlp)) = zk_Kr zK_vlp := rfl
  rw [hps] at hφ ⊢
  have hi1 := zp_int k1
  show zp_J p l e R s m args below meth c Q w u [] 0 [(0, 2, (a : Int)), (1, 0, p1)] [] u.1 (zp_n u.2.1)
  obtain ⟨⟨g7, hs, hn, hn2⟩, g5, pc, hC⟩ : (zp_n u.2.1 a 7 = (sz : Int) ∧ sz ≤ 872 ∧ p1 = (n : Int) ∧ n + 2 ≤ 872) ∧ zp_n u.2.1 a 5 = (cd : Int) ∧ u.1 cd = some 35 ∧ ∀ j, zp_n u.2.1 cd (2000 + j) = C j := hφ
  subst hn
  refine zp_load (pc := 0) hx hb (zd_X8_leapHere (0, .iload_n 1, 1, 0, []) (List.mem_of_getElem? (i := 0) rfl)) rfl (j := 1) rfl ?_
  refine zp_if (pc := 1) (tgt := 27) hx hb (zd_X8_leapHere (1, .ifCond .lt 26, 3, 0, []) (List.mem_of_getElem? (i := 1) rfl)) rfl (fun (hc22 : (n : Int) < 0) => ?_) (fun (hc22 : ¬ ((n : Int) < 0)) => ?_)
  · exfalso
    omega
  · refine zp_load (pc := 4) hx hb (zd_X8_leapHere (4, .iload_n 1, 1, 0, []) (List.mem_of_getElem? (i := 2) rfl)) rfl (j := 1) rfl ?_
    refine zp_const (pc := 5) hx hb (zd_X8_leapHere (5, .iconst 1, 1, 0, []) (List.mem_of_getElem? (i := 3) rfl)) rfl rfl ?_
    refine zp_add (n := ((n : Int) + 1)) (pc := 6) hx hb (zd_X8_leapHere (6, .iadd, 1, 0, []) (List.mem_of_getElem? (i := 4) rfl)) (by omega) (zp_r0 (by omega) (by omega)) ?_
    refine zp_load (pc := 7) hx hb (zd_X8_leapHere (7, .aload_n 0, 1, 0, []) (List.mem_of_getElem? (i := 5) rfl)) rfl (j := 0) rfl ?_
    refine zp_getf (n := (cd : Int)) (pc := 8) hx hb hE hw (zd_X8_leapHere (8, .getfield 38, 3, 0, []) (List.mem_of_getElem? (i := 6) rfl)) (j := 8) rfl rfl rfl hp g5 ?_
    refine zu_alen (len := 872) (pc := 11) hx hb hw (zd_X8_leapHere (11, .arraylength, 1, 0, []) (List.mem_of_getElem? (i := 7) rfl)) pc ⟨_, rfl, by decide, rfl, rfl⟩ (by decide) ?_
    refine zp_icmp (pc := 12) (tgt := 27) hx hb (zd_X8_leapHere (12, .if_icmp .ge 15, 3, 0, []) (List.mem_of_getElem? (i := 8) rfl)) rfl (fun (hc23 : 872 ≤ ((n : Int) + 1)) => ?_) (fun (hc23 : ¬ (872 ≤ ((n : Int) + 1))) => ?_)
    · exfalso
      omega
    · refine zp_load (pc := 15) hx hb (zd_X8_leapHere (15, .aload_n 0, 1, 0, []) (List.mem_of_getElem? (i := 9) rfl)) rfl (j := 0) rfl ?_
      refine zp_getf (n := (cd : Int)) (pc := 16) hx hb hE hw (zd_X8_leapHere (16, .getfield 38, 3, 0, []) (List.mem_of_getElem? (i := 10) rfl)) (j := 8) rfl rfl rfl hp g5 ?_
      refine zp_load (pc := 19) hx hb (zd_X8_leapHere (19, .iload_n 1, 1, 0, []) (List.mem_of_getElem? (i := 11) rfl)) rfl (j := 1) rfl ?_
      refine zp_const (pc := 20) hx hb (zd_X8_leapHere (20, .iconst 1, 1, 0, []) (List.mem_of_getElem? (i := 12) rfl)) rfl rfl ?_
      refine zp_add (n := ((n : Int) + 1)) (pc := 21) hx hb (zd_X8_leapHere (21, .iadd, 1, 0, []) (List.mem_of_getElem? (i := 13) rfl)) (by omega) (zp_r0 (by omega) (by omega)) ?_
      refine zp_load (pc := 22) hx hb (zd_X8_leapHere (22, .aload_n 0, 1, 0, []) (List.mem_of_getElem? (i := 14) rfl)) rfl (j := 0) rfl ?_
      refine zp_getf (n := (sz : Int)) (pc := 23) hx hb hE hw (zd_X8_leapHere (23, .getfield 45, 3, 0, []) (List.mem_of_getElem? (i := 15) rfl)) (j := 10) rfl rfl rfl hp g7 ?_
      refine zp_iast (j := (n + 1)) (pc := 26) hx hb hw heff (zd_X8_leapHere (26, .iastore, 1, 0, []) (List.mem_of_getElem? (i := 16) rfl)) (show zp_ia 1 35 = some (872, 0, 0, (-1000000), 1000000) from rfl) pc (by omega) (by omega) (zp_o0 (by omega) (by omega) (by omega) (by omega)) rfl ?_
      refine zp_vret (pc := 27) hx hb hE hQ hU5 rfl (by decide) (zd_X8_leapHere (27, .return_, 1, 0, []) (List.mem_of_getElem? (i := 17) rfl)) (j := 0) rfl ?_
      rw [hps]
      refine ⟨rfl, fun j => ?_⟩
      show (zp_set (zp_n u.2.1) cd (2000 + (n + 1)) (sz : Int)) cd (2000 + j) = yu C (n + 1) (sz : Int) j
      by_cases h1 : j = n + 1
      · subst h1
        exact (zp_set_self).trans yu_at.symm
      · rw [zp_set_ne (Or.inr (by omega)), yu_ne h1]
        exact hC j
noncomputable def zK_vcl : zk_K := (zt_mn 41, prog_10_method_3_code, 1, (Option.none : Option Jvm.ClassFile.FieldType), 1, 8, [(2, 8, 0, 0)], [(none, [])], [(8, 6, 0), (8, 7, 0)], (0, 0, 0, 0))
noncomputable def zψ_vcl : (Nat → Option Nat) → (Nat → Nat → Int) → List Int → (Nat → Option Nat) → (Nat → Nat → Int) → Int → Prop := fun P G ps P' G' rn => P' = P ∧ G' (zp_0 ps) 6 = 0 ∧ G' (zp_0 ps) 7 = 0
theorem zX_vcl {l : Launch} {w : zk_W} (hW : zh_W w) : zk_metX l w zt_dv zt_TB zK_vcl (zp_A zp_tA) (zp_B zψ_vcl) ∧ zk_cok w zt_TB zK_vcl := by
  refine zp_methX (cn := "WoundTown$Text") zp_lkallTx hW (pl := 712) rfl (by decide +kernel) (fun p e R s m args below meth c Q u hx hb hE hQ hU5 heff hnL hok hφ => ?_)
  have hw := hW.1
  obtain ⟨p0, hps, k0⟩ := zp_ps1 hok
  obtain ⟨a, rfl, hp⟩ := zp_this k0
  have hrm : zk_Kr (zk_ev (zt_types, zp_lkTx, zt_dv, [], [], zp_lcTx, zK_vcl)) = zk_Kr zK_vcl := rfl
  rw [hps] at hφ ⊢
  show zp_J p l e R s m args below meth c Q w u [] 0 [(0, 2, (a : Int))] [] u.1 (zp_n u.2.1)
  refine zp_load (pc := 0) hx hb (zd_X8_clear (0, .aload_n 0, 1, 0, []) (List.mem_of_getElem? (i := 0) rfl)) rfl (j := 0) rfl ?_
  refine zp_const (pc := 1) hx hb (zd_X8_clear (1, .iconst 0, 1, 0, []) (List.mem_of_getElem? (i := 1) rfl)) rfl rfl ?_
  refine zp_putf (pc := 2) hx hb hE hw heff (zd_X8_clear (2, .putfield 41, 3, 0, []) (List.mem_of_getElem? (i := 2) rfl)) (j := 9) rfl rfl rfl hp (zp_o0 (by decide) (by decide) (by decide) (by decide)) ?_
  refine zp_load (pc := 5) hx hb (zd_X8_clear (5, .aload_n 0, 1, 0, []) (List.mem_of_getElem? (i := 3) rfl)) rfl (j := 0) rfl ?_
  refine zp_const (pc := 6) hx hb (zd_X8_clear (6, .iconst 0, 1, 0, []) (List.mem_of_getElem? (i := 4) rfl)) rfl rfl ?_
  refine zp_putf (pc := 7) hx hb hE hw heff (zd_X8_clear (7, .putfield 45, 3, 0, []) (List.mem_of_getElem? (i := 5) rfl)) (j := 10) rfl rfl rfl hp (zp_o0 (by decide) (by decide) (by decide) (by decide)) ?_
  refine zp_vret (pc := 10) hx hb hE hQ hU5 rfl (by decide) (zd_X8_clear (10, .return_, 1, 0, []) (List.mem_of_getElem? (i := 6) rfl)) (j := 0) rfl ?_
  rw [hps]
  exact ⟨rfl, ((zp_set_ne (Or.inr (by decide))).trans (zp_set_self)), zp_set_self⟩
noncomputable def zK_vop : zk_K := (zt_mn 58, prog_10_method_4_code, 2, (Option.some Jvm.ClassFile.FieldType.boolean), 1, 8, [(2, 8, 0, 0), (0, 0, 0, 4)], [(some (0, 0, 0, 1), [])], [(30, 1001, 0), (31, 1001, 0), (32, 1001, 0), (33, 1001, 0), (34, 1001, 0), (8, 6, 0)], (0, 0, 0, 0))
noncomputable def zφ_vop (bb : Nat → Nat) (cl : Nat) : (Nat → Option Nat) → (Nat → Nat → Int) → List Int → Prop := fun P G ps => G (zp_0 ps) 6 = (cl : Int) ∧ cl < 12 ∧ (∀ i : Nat, i < 5 → G (zp_0 ps) i = (bb i : Int) ∧ P (bb i) = some (30 + i))
noncomputable def zψ_vop (bb : Nat → Nat) (cl : Nat) : (Nat → Option Nat) → (Nat → Nat → Int) → List Int → (Nat → Option Nat) → (Nat → Nat → Int) → Int → Prop := fun P G ps P' G' rn => P' = P ∧ rn = 1 ∧ G' (zp_0 ps) 6 = ((cl + 1 : Nat) : Int) ∧ (∀ i j : Nat, i < 5 → j ≠ cl → G' (bb i) (2000 + j) = G (bb i) (2000 + j)) ∧ G' (bb 0) (2000 + cl) = ps.getD 1 0 ∧ G' (bb 1) (2000 + cl) = -1 ∧ G' (bb 2) (2000 + cl) = -1 ∧ G' (bb 3) (2000 + cl) = 1 ∧ G' (bb 4) (2000 + cl) = -1
theorem zX_vop {l : Launch} {w : zk_W} (hW : zh_W w) (bb : Nat → Nat) (cl : Nat) : zk_metX l w zt_dv zt_TB zK_vop (zp_A (zφ_vop bb cl)) (zp_B (zψ_vop bb cl)) ∧ zk_cok w zt_TB zK_vop := by
  refine zp_methX (cn := "WoundTown$Text") zp_lkallTx hW (pl := 785) rfl (by decide +kernel) (fun p e R s m args below meth c Q u hx hb hE hQ hU5 heff hnL hok hφ => ?_)
  have hw := hW.1
  obtain ⟨p0, p1, hps, k0, k1⟩ := zp_ps2 hok
  obtain ⟨a, rfl, hp⟩ := zp_this k0
  have hrm : zk_Kr (zk_ev (zt_types, zp_lkTx, zt_dv, [], [], zp_lcTx, zK_vop)) = zk_Kr zK_vop := rfl
  rw [hps] at hφ ⊢
  have hi1 := zp_int k1
  show zp_J p l e R s m args below meth c Q w u [] 0 [(0, 2, (a : Int)), (1, 0, p1)] [] u.1 (zp_n u.2.1)
  obtain ⟨g6, hcl, hbb⟩ : zp_n u.2.1 a 6 = (cl : Int) ∧ cl < 12 ∧ (∀ i : Nat, i < 5 → zp_n u.2.1 a i = (bb i : Int) ∧ u.1 (bb i) = some (30 + i)) := hφ
  obtain ⟨b0, hb0⟩ : ∃ x : Nat, x = bb 0 := ⟨_, rfl⟩
  have g0 := (hbb 0 (by decide)).1
  have q0 : u.1 (bb 0) = some 30 := (hbb 0 (by decide)).2
  rw [← hb0] at g0 q0
  obtain ⟨b1, hb1⟩ : ∃ x : Nat, x = bb 1 := ⟨_, rfl⟩
  have g1 := (hbb 1 (by decide)).1
  have q1 : u.1 (bb 1) = some 31 := (hbb 1 (by decide)).2
  rw [← hb1] at g1 q1
  obtain ⟨b2, hb2⟩ : ∃ x : Nat, x = bb 2 := ⟨_, rfl⟩
  have g2 := (hbb 2 (by decide)).1
  have q2 : u.1 (bb 2) = some 32 := (hbb 2 (by decide)).2
  rw [← hb2] at g2 q2
  obtain ⟨b3, hb3⟩ : ∃ x : Nat, x = bb 3 := ⟨_, rfl⟩
  have g3 := (hbb 3 (by decide)).1
  have q3 : u.1 (bb 3) = some 33 := (hbb 3 (by decide)).2
  rw [← hb3] at g3 q3
  obtain ⟨b4, hb4⟩ : ∃ x : Nat, x = bb 4 := ⟨_, rfl⟩
  have g4 := (hbb 4 (by decide)).1
  have q4 : u.1 (bb 4) = some 34 := (hbb 4 (by decide)).2
  rw [← hb4] at g4 q4
  refine zp_load (pc := 0) hx hb (zd_X8_isOpened (0, .aload_n 0, 1, 0, []) (List.mem_of_getElem? (i := 0) rfl)) rfl (j := 0) rfl ?_
  refine zp_getf (n := (cl : Int)) (pc := 1) hx hb hE hw (zd_X8_isOpened (1, .getfield 41, 3, 0, []) (List.mem_of_getElem? (i := 1) rfl)) (j := 9) rfl rfl rfl hp g6 ?_
  refine zp_load (pc := 4) hx hb (zd_X8_isOpened (4, .aload_n 0, 1, 0, []) (List.mem_of_getElem? (i := 2) rfl)) rfl (j := 0) rfl ?_
  refine zp_getf (n := (b0 : Int)) (pc := 5) hx hb hE hw (zd_X8_isOpened (5, .getfield 22, 3, 0, []) (List.mem_of_getElem? (i := 3) rfl)) (j := 3) rfl rfl rfl hp g0 ?_
  refine zu_alen (len := 12) (pc := 8) hx hb hw (zd_X8_isOpened (8, .arraylength, 1, 0, []) (List.mem_of_getElem? (i := 4) rfl)) q0 ⟨_, rfl, by decide, rfl, rfl⟩ (by decide) ?_
  refine zp_icmp (pc := 9) (tgt := 14) hx hb (zd_X8_isOpened (9, .if_icmp .lt 5, 3, 0, []) (List.mem_of_getElem? (i := 5) rfl)) rfl (fun (hc24 : (cl : Int) < 12) => ?_) (fun (hc24 : ¬ ((cl : Int) < 12)) => ?_)
  · refine zp_load (pc := 14) hx hb (zd_X8_isOpened (14, .aload_n 0, 1, 0, []) (List.mem_of_getElem? (i := 8) rfl)) rfl (j := 0) rfl ?_
    refine zp_getf (n := (b0 : Int)) (pc := 15) hx hb hE hw (zd_X8_isOpened (15, .getfield 22, 3, 0, []) (List.mem_of_getElem? (i := 9) rfl)) (j := 3) rfl rfl rfl hp g0 ?_
    refine zp_load (pc := 18) hx hb (zd_X8_isOpened (18, .aload_n 0, 1, 0, []) (List.mem_of_getElem? (i := 10) rfl)) rfl (j := 0) rfl ?_
    refine zp_getf (n := (cl : Int)) (pc := 19) hx hb hE hw (zd_X8_isOpened (19, .getfield 41, 3, 0, []) (List.mem_of_getElem? (i := 11) rfl)) (j := 9) rfl rfl rfl hp g6 ?_
    refine zp_load (pc := 22) hx hb (zd_X8_isOpened (22, .iload_n 1, 1, 0, []) (List.mem_of_getElem? (i := 12) rfl)) rfl (j := 1) rfl ?_
    refine zp_iast (j := cl) (pc := 23) hx hb hw heff (zd_X8_isOpened (23, .iastore, 1, 0, []) (List.mem_of_getElem? (i := 13) rfl)) (show zp_ia 1 30 = some (12, 0, 0, (-2147483648), 2147483647) from rfl) q0 (by omega) (by omega) (zp_o0 (by omega) (by omega) (by omega) (by omega)) rfl ?_
    refine zp_load (pc := 24) hx hb (zd_X8_isOpened (24, .aload_n 0, 1, 0, []) (List.mem_of_getElem? (i := 14) rfl)) rfl (j := 0) rfl ?_
    refine zp_getf (n := (b1 : Int)) (pc := 25) hx hb hE hw (zd_X8_isOpened (25, .getfield 26, 3, 0, []) (List.mem_of_getElem? (i := 15) rfl)) (j := 4) rfl rfl rfl hp ((zp_set_ne (Or.inl (zp_pne hp q0 (by decide)))).trans (g1)) ?_
    refine zp_load (pc := 28) hx hb (zd_X8_isOpened (28, .aload_n 0, 1, 0, []) (List.mem_of_getElem? (i := 16) rfl)) rfl (j := 0) rfl ?_
    refine zp_getf (n := (cl : Int)) (pc := 29) hx hb hE hw (zd_X8_isOpened (29, .getfield 41, 3, 0, []) (List.mem_of_getElem? (i := 17) rfl)) (j := 9) rfl rfl rfl hp ((zp_set_ne (Or.inl (zp_pne hp q0 (by decide)))).trans (g6)) ?_
    refine zp_const (pc := 32) hx hb (zd_X8_isOpened (32, .iconst (-1), 1, 0, []) (List.mem_of_getElem? (i := 18) rfl)) rfl rfl ?_
    refine zp_iast (j := cl) (pc := 33) hx hb hw heff (zd_X8_isOpened (33, .iastore, 1, 0, []) (List.mem_of_getElem? (i := 19) rfl)) (show zp_ia 1 31 = some (12, 0, 0, (-1), 872) from rfl) q1 (by omega) (by omega) (zp_o0 (by omega) (by omega) (by omega) (by omega)) rfl ?_
    refine zp_load (pc := 34) hx hb (zd_X8_isOpened (34, .aload_n 0, 1, 0, []) (List.mem_of_getElem? (i := 20) rfl)) rfl (j := 0) rfl ?_
    refine zp_getf (n := (b2 : Int)) (pc := 35) hx hb hE hw (zd_X8_isOpened (35, .getfield 29, 3, 0, []) (List.mem_of_getElem? (i := 21) rfl)) (j := 5) rfl rfl rfl hp ((zp_set_ne (Or.inl (zp_pne hp q1 (by decide)))).trans ((zp_set_ne (Or.inl (zp_pne hp q0 (by decide)))).trans (g2))) ?_
    refine zp_load (pc := 38) hx hb (zd_X8_isOpened (38, .aload_n 0, 1, 0, []) (List.mem_of_getElem? (i := 22) rfl)) rfl (j := 0) rfl ?_
    refine zp_getf (n := (cl : Int)) (pc := 39) hx hb hE hw (zd_X8_isOpened (39, .getfield 41, 3, 0, []) (List.mem_of_getElem? (i := 23) rfl)) (j := 9) rfl rfl rfl hp ((zp_set_ne (Or.inl (zp_pne hp q1 (by decide)))).trans ((zp_set_ne (Or.inl (zp_pne hp q0 (by decide)))).trans (g6))) ?_
    refine zp_const (pc := 42) hx hb (zd_X8_isOpened (42, .iconst (-1), 1, 0, []) (List.mem_of_getElem? (i := 24) rfl)) rfl rfl ?_
    refine zp_iast (j := cl) (pc := 43) hx hb hw heff (zd_X8_isOpened (43, .iastore, 1, 0, []) (List.mem_of_getElem? (i := 25) rfl)) (show zp_ia 1 32 = some (12, 0, 0, (-1), 872) from rfl) q2 (by omega) (by omega) (zp_o0 (by omega) (by omega) (by omega) (by omega)) rfl ?_
    refine zp_load (pc := 44) hx hb (zd_X8_isOpened (44, .aload_n 0, 1, 0, []) (List.mem_of_getElem? (i := 26) rfl)) rfl (j := 0) rfl ?_
    refine zp_getf (n := (b3 : Int)) (pc := 45) hx hb hE hw (zd_X8_isOpened (45, .getfield 32, 3, 0, []) (List.mem_of_getElem? (i := 27) rfl)) (j := 6) rfl rfl rfl hp ((zp_set_ne (Or.inl (zp_pne hp q2 (by decide)))).trans ((zp_set_ne (Or.inl (zp_pne hp q1 (by decide)))).trans ((zp_set_ne (Or.inl (zp_pne hp q0 (by decide)))).trans (g3)))) ?_
    refine zp_load (pc := 48) hx hb (zd_X8_isOpened (48, .aload_n 0, 1, 0, []) (List.mem_of_getElem? (i := 28) rfl)) rfl (j := 0) rfl ?_
    refine zp_getf (n := (cl : Int)) (pc := 49) hx hb hE hw (zd_X8_isOpened (49, .getfield 41, 3, 0, []) (List.mem_of_getElem? (i := 29) rfl)) (j := 9) rfl rfl rfl hp ((zp_set_ne (Or.inl (zp_pne hp q2 (by decide)))).trans ((zp_set_ne (Or.inl (zp_pne hp q1 (by decide)))).trans ((zp_set_ne (Or.inl (zp_pne hp q0 (by decide)))).trans (g6)))) ?_
    refine zp_const (pc := 52) hx hb (zd_X8_isOpened (52, .iconst 1, 1, 0, []) (List.mem_of_getElem? (i := 30) rfl)) rfl rfl ?_
    refine zp_iast (j := cl) (pc := 53) hx hb hw heff (zd_X8_isOpened (53, .iastore, 1, 0, []) (List.mem_of_getElem? (i := 31) rfl)) (show zp_ia 1 33 = some (12, 0, 0, (-2147483648), 2147483647) from rfl) q3 (by omega) (by omega) (zp_o0 (by omega) (by omega) (by omega) (by omega)) rfl ?_
    refine zp_load (pc := 54) hx hb (zd_X8_isOpened (54, .aload_n 0, 1, 0, []) (List.mem_of_getElem? (i := 32) rfl)) rfl (j := 0) rfl ?_
    refine zp_getf (n := (b4 : Int)) (pc := 55) hx hb hE hw (zd_X8_isOpened (55, .getfield 35, 3, 0, []) (List.mem_of_getElem? (i := 33) rfl)) (j := 7) rfl rfl rfl hp ((zp_set_ne (Or.inl (zp_pne hp q3 (by decide)))).trans ((zp_set_ne (Or.inl (zp_pne hp q2 (by decide)))).trans ((zp_set_ne (Or.inl (zp_pne hp q1 (by decide)))).trans ((zp_set_ne (Or.inl (zp_pne hp q0 (by decide)))).trans (g4))))) ?_
    refine zp_load (pc := 58) hx hb (zd_X8_isOpened (58, .aload_n 0, 1, 0, []) (List.mem_of_getElem? (i := 34) rfl)) rfl (j := 0) rfl ?_
    refine zp_getf (n := (cl : Int)) (pc := 59) hx hb hE hw (zd_X8_isOpened (59, .getfield 41, 3, 0, []) (List.mem_of_getElem? (i := 35) rfl)) (j := 9) rfl rfl rfl hp ((zp_set_ne (Or.inl (zp_pne hp q3 (by decide)))).trans ((zp_set_ne (Or.inl (zp_pne hp q2 (by decide)))).trans ((zp_set_ne (Or.inl (zp_pne hp q1 (by decide)))).trans ((zp_set_ne (Or.inl (zp_pne hp q0 (by decide)))).trans (g6))))) ?_
    refine zp_const (pc := 62) hx hb (zd_X8_isOpened (62, .iconst (-1), 1, 0, []) (List.mem_of_getElem? (i := 36) rfl)) rfl rfl ?_
    refine zp_iast (j := cl) (pc := 63) hx hb hw heff (zd_X8_isOpened (63, .iastore, 1, 0, []) (List.mem_of_getElem? (i := 37) rfl)) (show zp_ia 1 34 = some (12, 0, 0, (-1), 872) from rfl) q4 (by omega) (by omega) (zp_o0 (by omega) (by omega) (by omega) (by omega)) rfl ?_
    refine zp_load (pc := 64) hx hb (zd_X8_isOpened (64, .aload_n 0, 1, 0, []) (List.mem_of_getElem? (i := 38) rfl)) rfl (j := 0) rfl ?_
    refine zp_dup (pc := 65) hx hb (zd_X8_isOpened (65, .dup, 1, 0, []) (List.mem_of_getElem? (i := 39) rfl)) (show (2 : Nat) ≠ 1 by decide) ?_
    refine zp_getf (n := (cl : Int)) (pc := 66) hx hb hE hw (zd_X8_isOpened (66, .getfield 41, 3, 0, []) (List.mem_of_getElem? (i := 40) rfl)) (j := 9) rfl rfl rfl hp ((zp_set_ne (Or.inl (zp_pne hp q4 (by decide)))).trans ((zp_set_ne (Or.inl (zp_pne hp q3 (by decide)))).trans ((zp_set_ne (Or.inl (zp_pne hp q2 (by decide)))).trans ((zp_set_ne (Or.inl (zp_pne hp q1 (by decide)))).trans ((zp_set_ne (Or.inl (zp_pne hp q0 (by decide)))).trans (g6)))))) ?_
    refine zp_const (pc := 69) hx hb (zd_X8_isOpened (69, .iconst 1, 1, 0, []) (List.mem_of_getElem? (i := 41) rfl)) rfl rfl ?_
    refine zp_add (n := ((cl : Int) + 1)) (pc := 70) hx hb (zd_X8_isOpened (70, .iadd, 1, 0, []) (List.mem_of_getElem? (i := 42) rfl)) (by omega) (zp_r0 (by omega) (by omega)) ?_
    refine zp_putf (pc := 71) hx hb hE hw heff (zd_X8_isOpened (71, .putfield 41, 3, 0, []) (List.mem_of_getElem? (i := 43) rfl)) (j := 9) rfl rfl rfl hp (zp_o0 (by omega) (by omega) (by omega) (by omega)) ?_
    refine zp_const (pc := 74) hx hb (zd_X8_isOpened (74, .iconst 1, 1, 0, []) (List.mem_of_getElem? (i := 44) rfl)) rfl rfl ?_
    refine zp_zret (pc := 75) (n := 1) hx hb hE hQ hU5 rfl (by decide) (zd_X8_isOpened (75, .ireturn, 1, 0, []) (List.mem_of_getElem? (i := 45) rfl)) (j := 0) rfl (zp_o0 (by omega) (by omega) (by omega) (by omega)) ?_
    rw [hps]
    refine ⟨rfl, rfl, (zp_set_self).trans (by omega), ?_, ?_⟩
    · intro i j hi hj
      have hi5 : i = 0 ∨ i = 1 ∨ i = 2 ∨ i = 3 ∨ i = 4 := by omega
      rcases hi5 with rfl | rfl | rfl | rfl | rfl
      · rw [← hb0]
        exact ((zp_set_ne (Or.inl (zp_pne q0 hp (by decide)))).trans ((zp_set_ne (Or.inl (zp_pne q0 q4 (by decide)))).trans ((zp_set_ne (Or.inl (zp_pne q0 q3 (by decide)))).trans ((zp_set_ne (Or.inl (zp_pne q0 q2 (by decide)))).trans ((zp_set_ne (Or.inl (zp_pne q0 q1 (by decide)))).trans ((zp_set_ne (Or.inr (by omega)))))))))
      · rw [← hb1]
        exact ((zp_set_ne (Or.inl (zp_pne q1 hp (by decide)))).trans ((zp_set_ne (Or.inl (zp_pne q1 q4 (by decide)))).trans ((zp_set_ne (Or.inl (zp_pne q1 q3 (by decide)))).trans ((zp_set_ne (Or.inl (zp_pne q1 q2 (by decide)))).trans ((zp_set_ne (Or.inr (by omega))).trans ((zp_set_ne (Or.inl (zp_pne q1 q0 (by decide))))))))))
      · rw [← hb2]
        exact ((zp_set_ne (Or.inl (zp_pne q2 hp (by decide)))).trans ((zp_set_ne (Or.inl (zp_pne q2 q4 (by decide)))).trans ((zp_set_ne (Or.inl (zp_pne q2 q3 (by decide)))).trans ((zp_set_ne (Or.inr (by omega))).trans ((zp_set_ne (Or.inl (zp_pne q2 q1 (by decide)))).trans ((zp_set_ne (Or.inl (zp_pne q2 q0 (by decide))))))))))
      · rw [← hb3]
        exact ((zp_set_ne (Or.inl (zp_pne q3 hp (by decide)))).trans ((zp_set_ne (Or.inl (zp_pne q3 q4 (by decide)))).trans ((zp_set_ne (Or.inr (by omega))).trans ((zp_set_ne (Or.inl (zp_pne q3 q2 (by decide)))).trans ((zp_set_ne (Or.inl (zp_pne q3 q1 (by decide)))).trans ((zp_set_ne (Or.inl (zp_pne q3 q0 (by decide))))))))))
      · rw [← hb4]
        exact ((zp_set_ne (Or.inl (zp_pne q4 hp (by decide)))).trans ((zp_set_ne (Or.inr (by omega))).trans ((zp_set_ne (Or.inl (zp_pne q4 q3 (by decide)))).trans ((zp_set_ne (Or.inl (zp_pne q4 q2 (by decide)))).trans ((zp_set_ne (Or.inl (zp_pne q4 q1 (by decide)))).trans ((zp_set_ne (Or.inl (zp_pne q4 q0 (by decide))))))))))
    · rw [← hb0, ← hb1, ← hb2, ← hb3, ← hb4]
      exact ⟨((zp_set_ne (Or.inl (zp_pne q0 hp (by decide)))).trans ((zp_set_ne (Or.inl (zp_pne q0 q4 (by decide)))).trans ((zp_set_ne (Or.inl (zp_pne q0 q3 (by decide)))).trans ((zp_set_ne (Or.inl (zp_pne q0 q2 (by decide)))).trans ((zp_set_ne (Or.inl (zp_pne q0 q1 (by decide)))).trans (zp_set_self)))))), ((zp_set_ne (Or.inl (zp_pne q1 hp (by decide)))).trans ((zp_set_ne (Or.inl (zp_pne q1 q4 (by decide)))).trans ((zp_set_ne (Or.inl (zp_pne q1 q3 (by decide)))).trans ((zp_set_ne (Or.inl (zp_pne q1 q2 (by decide)))).trans (zp_set_self))))), ((zp_set_ne (Or.inl (zp_pne q2 hp (by decide)))).trans ((zp_set_ne (Or.inl (zp_pne q2 q4 (by decide)))).trans ((zp_set_ne (Or.inl (zp_pne q2 q3 (by decide)))).trans (zp_set_self)))), ((zp_set_ne (Or.inl (zp_pne q3 hp (by decide)))).trans ((zp_set_ne (Or.inl (zp_pne q3 q4 (by decide)))).trans (zp_set_self))), ((zp_set_ne (Or.inl (zp_pne q4 hp (by decide)))).trans (zp_set_self))⟩
  · refine zp_const (pc := 12) hx hb (zd_X8_isOpened (12, .iconst 0, 1, 0, []) (List.mem_of_getElem? (i := 6) rfl)) rfl rfl ?_
    exfalso
    omega
noncomputable def zK_vt31 : zk_K := (zt_mn 60, prog_10_method_5_code, 3, (Option.none : Option Jvm.ClassFile.FieldType), 1, 8, [(2, 8, 0, 0), (2, 31, 0, 0), (0, 0, 0, 872)], [(none, [])], [(31, 1001, 0)], (0, 0, 0, 0))
noncomputable def zφ_vt31 (r cl : Nat) : (Nat → Option Nat) → (Nat → Nat → Int) → List Int → Prop := fun P G ps => ps.getD 1 0 = (r : Int) ∧ G (zp_0 ps) 6 = ((cl + 1 : Nat) : Int) ∧ cl < 12
noncomputable def zψ_vt31 (r cl : Nat) : (Nat → Option Nat) → (Nat → Nat → Int) → List Int → (Nat → Option Nat) → (Nat → Nat → Int) → Int → Prop := fun P G ps P' G' rn => P' = P ∧ G' r (2000 + cl) = ps.getD 2 0 ∧ ∀ j, j ≠ cl → G' r (2000 + j) = G r (2000 + j)
theorem zX_vt31 {l : Launch} {w : zk_W} (hW : zh_W w) (r cl : Nat) : zk_metX l w zt_dv zt_TB zK_vt31 (zp_A (zφ_vt31 r cl)) (zp_B (zψ_vt31 r cl)) ∧ zk_cok w zt_TB zK_vt31 := by
  refine zp_methX (cn := "WoundTown$Text") zp_lkallTx hW (pl := 794) rfl (by decide +kernel) (fun p e R s m args below meth c Q u hx hb hE hQ hU5 heff hnL hok hφ => ?_)
  have hw := hW.1
  obtain ⟨p0, p1, p2, hps, k0, k1, k2⟩ := zp_ps3 hok
  obtain ⟨a, rfl, hp⟩ := zp_this k0
  have hrm : zk_Kr (zk_ev (zt_types, zp_lkTx, zt_dv, [], [], zp_lcTx, zK_vt31)) = zk_Kr zK_vt31 := rfl
  rw [hps] at hφ ⊢
  have hi2 := zp_int k2
  show zp_J p l e R s m args below meth c Q w u [] 0 [(0, 2, (a : Int)), (1, 2, p1), (2, 0, p2)] [] u.1 (zp_n u.2.1)
  obtain ⟨hr1, g6, hcl⟩ : p1 = (r : Int) ∧ zp_n u.2.1 a 6 = ((cl + 1 : Nat) : Int) ∧ cl < 12 := hφ
  subst hr1
  have qr : u.1 r = some 31 := by
    obtain ⟨r9, e9, q9⟩ := zp_this k1
    have : r = r9 := by omega
    rw [this]
    exact q9
  refine zp_load (pc := 0) hx hb (zd_X8_tell (0, .aload_n 0, 1, 0, []) (List.mem_of_getElem? (i := 0) rfl)) rfl (j := 0) rfl ?_
  refine zp_getf (n := ((cl : Int) + 1)) (pc := 1) hx hb hE hw (zd_X8_tell (1, .getfield 41, 3, 0, []) (List.mem_of_getElem? (i := 1) rfl)) (j := 9) rfl rfl rfl hp (g6.trans (by omega)) ?_
  refine zp_const (pc := 4) hx hb (zd_X8_tell (4, .iconst 1, 1, 0, []) (List.mem_of_getElem? (i := 2) rfl)) rfl rfl ?_
  refine zp_icmp (pc := 5) (tgt := 26) hx hb (zd_X8_tell (5, .if_icmp .lt 21, 3, 0, []) (List.mem_of_getElem? (i := 3) rfl)) rfl (fun (hc25 : ((cl : Int) + 1) < 1) => ?_) (fun (hc25 : ¬ (((cl : Int) + 1) < 1)) => ?_)
  · exfalso
    omega
  · refine zp_load (pc := 8) hx hb (zd_X8_tell (8, .aload_n 0, 1, 0, []) (List.mem_of_getElem? (i := 4) rfl)) rfl (j := 0) rfl ?_
    refine zp_getf (n := ((cl : Int) + 1)) (pc := 9) hx hb hE hw (zd_X8_tell (9, .getfield 41, 3, 0, []) (List.mem_of_getElem? (i := 5) rfl)) (j := 9) rfl rfl rfl hp (g6.trans (by omega)) ?_
    refine zp_load (pc := 12) hx hb (zd_X8_tell (12, .aload_n 1, 1, 0, []) (List.mem_of_getElem? (i := 6) rfl)) rfl (j := 1) rfl ?_
    refine zu_alen (len := 12) (pc := 13) hx hb hw (zd_X8_tell (13, .arraylength, 1, 0, []) (List.mem_of_getElem? (i := 7) rfl)) qr ⟨_, rfl, by decide, rfl, rfl⟩ (by decide) ?_
    refine zp_icmp (pc := 14) (tgt := 26) hx hb (zd_X8_tell (14, .if_icmp .gt 12, 3, 0, []) (List.mem_of_getElem? (i := 8) rfl)) rfl (fun (hc26 : 12 < ((cl : Int) + 1)) => ?_) (fun (hc26 : ¬ (12 < ((cl : Int) + 1))) => ?_)
    · exfalso
      omega
    · refine zp_load (pc := 17) hx hb (zd_X8_tell (17, .aload_n 1, 1, 0, []) (List.mem_of_getElem? (i := 9) rfl)) rfl (j := 1) rfl ?_
      refine zp_load (pc := 18) hx hb (zd_X8_tell (18, .aload_n 0, 1, 0, []) (List.mem_of_getElem? (i := 10) rfl)) rfl (j := 0) rfl ?_
      refine zp_getf (n := ((cl : Int) + 1)) (pc := 19) hx hb hE hw (zd_X8_tell (19, .getfield 41, 3, 0, []) (List.mem_of_getElem? (i := 11) rfl)) (j := 9) rfl rfl rfl hp (g6.trans (by omega)) ?_
      refine zp_const (pc := 22) hx hb (zd_X8_tell (22, .iconst 1, 1, 0, []) (List.mem_of_getElem? (i := 12) rfl)) rfl rfl ?_
      refine zp_sub (n := (cl : Int)) (pc := 23) hx hb (zd_X8_tell (23, .isub, 1, 0, []) (List.mem_of_getElem? (i := 13) rfl)) (by omega) (zp_r0 (by omega) (by omega)) ?_
      refine zp_load (pc := 24) hx hb (zd_X8_tell (24, .iload_n 2, 1, 0, []) (List.mem_of_getElem? (i := 14) rfl)) rfl (j := 2) rfl ?_
      refine zp_iast (j := cl) (pc := 25) hx hb hw heff (zd_X8_tell (25, .iastore, 1, 0, []) (List.mem_of_getElem? (i := 15) rfl)) (show zp_ia 1 31 = some (12, 0, 0, (-1), 872) from rfl) qr (by omega) (by omega) (zp_o0 (by omega) (by omega) (by omega) (by omega)) rfl ?_
      refine zp_vret (pc := 26) hx hb hE hQ hU5 rfl (by decide) (zd_X8_tell (26, .return_, 1, 0, []) (List.mem_of_getElem? (i := 16) rfl)) (j := 0) rfl ?_
      rw [hps]
      exact ⟨rfl, zp_set_self, fun j hj => zp_set_ne (Or.inr (by omega))⟩
noncomputable def zK_vt32 : zk_K := (zt_mn 60, prog_10_method_5_code, 3, (Option.none : Option Jvm.ClassFile.FieldType), 1, 8, [(2, 8, 0, 0), (2, 32, 0, 0), (0, 0, 0, 872)], [(none, [])], [(32, 1001, 0)], (0, 0, 0, 0))
noncomputable def zφ_vt32 (r cl : Nat) : (Nat → Option Nat) → (Nat → Nat → Int) → List Int → Prop := fun P G ps => ps.getD 1 0 = (r : Int) ∧ G (zp_0 ps) 6 = ((cl + 1 : Nat) : Int) ∧ cl < 12
noncomputable def zψ_vt32 (r cl : Nat) : (Nat → Option Nat) → (Nat → Nat → Int) → List Int → (Nat → Option Nat) → (Nat → Nat → Int) → Int → Prop := fun P G ps P' G' rn => P' = P ∧ G' r (2000 + cl) = ps.getD 2 0 ∧ ∀ j, j ≠ cl → G' r (2000 + j) = G r (2000 + j)
theorem zX_vt32 {l : Launch} {w : zk_W} (hW : zh_W w) (r cl : Nat) : zk_metX l w zt_dv zt_TB zK_vt32 (zp_A (zφ_vt32 r cl)) (zp_B (zψ_vt32 r cl)) ∧ zk_cok w zt_TB zK_vt32 := by
  refine zp_methX (cn := "WoundTown$Text") zp_lkallTx hW (pl := 794) rfl (by decide +kernel) (fun p e R s m args below meth c Q u hx hb hE hQ hU5 heff hnL hok hφ => ?_)
  have hw := hW.1
  obtain ⟨p0, p1, p2, hps, k0, k1, k2⟩ := zp_ps3 hok
  obtain ⟨a, rfl, hp⟩ := zp_this k0
  have hrm : zk_Kr (zk_ev (zt_types, zp_lkTx, zt_dv, [], [], zp_lcTx, zK_vt32)) = zk_Kr zK_vt32 := rfl
  rw [hps] at hφ ⊢
  have hi2 := zp_int k2
  show zp_J p l e R s m args below meth c Q w u [] 0 [(0, 2, (a : Int)), (1, 2, p1), (2, 0, p2)] [] u.1 (zp_n u.2.1)
  obtain ⟨hr1, g6, hcl⟩ : p1 = (r : Int) ∧ zp_n u.2.1 a 6 = ((cl + 1 : Nat) : Int) ∧ cl < 12 := hφ
  subst hr1
  have qr : u.1 r = some 32 := by
    obtain ⟨r9, e9, q9⟩ := zp_this k1
    have : r = r9 := by omega
    rw [this]
    exact q9
  refine zp_load (pc := 0) hx hb (zd_X8_tell (0, .aload_n 0, 1, 0, []) (List.mem_of_getElem? (i := 0) rfl)) rfl (j := 0) rfl ?_
  refine zp_getf (n := ((cl : Int) + 1)) (pc := 1) hx hb hE hw (zd_X8_tell (1, .getfield 41, 3, 0, []) (List.mem_of_getElem? (i := 1) rfl)) (j := 9) rfl rfl rfl hp (g6.trans (by omega)) ?_
  refine zp_const (pc := 4) hx hb (zd_X8_tell (4, .iconst 1, 1, 0, []) (List.mem_of_getElem? (i := 2) rfl)) rfl rfl ?_
  refine zp_icmp (pc := 5) (tgt := 26) hx hb (zd_X8_tell (5, .if_icmp .lt 21, 3, 0, []) (List.mem_of_getElem? (i := 3) rfl)) rfl (fun (hc27 : ((cl : Int) + 1) < 1) => ?_) (fun (hc27 : ¬ (((cl : Int) + 1) < 1)) => ?_)
  · exfalso
    omega
  · refine zp_load (pc := 8) hx hb (zd_X8_tell (8, .aload_n 0, 1, 0, []) (List.mem_of_getElem? (i := 4) rfl)) rfl (j := 0) rfl ?_
    refine zp_getf (n := ((cl : Int) + 1)) (pc := 9) hx hb hE hw (zd_X8_tell (9, .getfield 41, 3, 0, []) (List.mem_of_getElem? (i := 5) rfl)) (j := 9) rfl rfl rfl hp (g6.trans (by omega)) ?_
    refine zp_load (pc := 12) hx hb (zd_X8_tell (12, .aload_n 1, 1, 0, []) (List.mem_of_getElem? (i := 6) rfl)) rfl (j := 1) rfl ?_
    refine zu_alen (len := 12) (pc := 13) hx hb hw (zd_X8_tell (13, .arraylength, 1, 0, []) (List.mem_of_getElem? (i := 7) rfl)) qr ⟨_, rfl, by decide, rfl, rfl⟩ (by decide) ?_
    refine zp_icmp (pc := 14) (tgt := 26) hx hb (zd_X8_tell (14, .if_icmp .gt 12, 3, 0, []) (List.mem_of_getElem? (i := 8) rfl)) rfl (fun (hc28 : 12 < ((cl : Int) + 1)) => ?_) (fun (hc28 : ¬ (12 < ((cl : Int) + 1))) => ?_)
    · exfalso
      omega
    · refine zp_load (pc := 17) hx hb (zd_X8_tell (17, .aload_n 1, 1, 0, []) (List.mem_of_getElem? (i := 9) rfl)) rfl (j := 1) rfl ?_
      refine zp_load (pc := 18) hx hb (zd_X8_tell (18, .aload_n 0, 1, 0, []) (List.mem_of_getElem? (i := 10) rfl)) rfl (j := 0) rfl ?_
      refine zp_getf (n := ((cl : Int) + 1)) (pc := 19) hx hb hE hw (zd_X8_tell (19, .getfield 41, 3, 0, []) (List.mem_of_getElem? (i := 11) rfl)) (j := 9) rfl rfl rfl hp (g6.trans (by omega)) ?_
      refine zp_const (pc := 22) hx hb (zd_X8_tell (22, .iconst 1, 1, 0, []) (List.mem_of_getElem? (i := 12) rfl)) rfl rfl ?_
      refine zp_sub (n := (cl : Int)) (pc := 23) hx hb (zd_X8_tell (23, .isub, 1, 0, []) (List.mem_of_getElem? (i := 13) rfl)) (by omega) (zp_r0 (by omega) (by omega)) ?_
      refine zp_load (pc := 24) hx hb (zd_X8_tell (24, .iload_n 2, 1, 0, []) (List.mem_of_getElem? (i := 14) rfl)) rfl (j := 2) rfl ?_
      refine zp_iast (j := cl) (pc := 25) hx hb hw heff (zd_X8_tell (25, .iastore, 1, 0, []) (List.mem_of_getElem? (i := 15) rfl)) (show zp_ia 1 32 = some (12, 0, 0, (-1), 872) from rfl) qr (by omega) (by omega) (zp_o0 (by omega) (by omega) (by omega) (by omega)) rfl ?_
      refine zp_vret (pc := 26) hx hb hE hQ hU5 rfl (by decide) (zd_X8_tell (26, .return_, 1, 0, []) (List.mem_of_getElem? (i := 16) rfl)) (j := 0) rfl ?_
      rw [hps]
      exact ⟨rfl, zp_set_self, fun j hj => zp_set_ne (Or.inr (by omega))⟩
noncomputable def zK_vt33 : zk_K := (zt_mn 60, prog_10_method_5_code, 3, (Option.none : Option Jvm.ClassFile.FieldType), 1, 8, [(2, 8, 0, 0), (2, 33, 0, 0), (0, 0, 1, 20)], [(none, [])], [(33, 1001, 0)], (0, 0, 0, 0))
noncomputable def zφ_vt33 (r cl : Nat) : (Nat → Option Nat) → (Nat → Nat → Int) → List Int → Prop := fun P G ps => ps.getD 1 0 = (r : Int) ∧ G (zp_0 ps) 6 = ((cl + 1 : Nat) : Int) ∧ cl < 12
noncomputable def zψ_vt33 (r cl : Nat) : (Nat → Option Nat) → (Nat → Nat → Int) → List Int → (Nat → Option Nat) → (Nat → Nat → Int) → Int → Prop := fun P G ps P' G' rn => P' = P ∧ G' r (2000 + cl) = ps.getD 2 0 ∧ ∀ j, j ≠ cl → G' r (2000 + j) = G r (2000 + j)
theorem zX_vt33 {l : Launch} {w : zk_W} (hW : zh_W w) (r cl : Nat) : zk_metX l w zt_dv zt_TB zK_vt33 (zp_A (zφ_vt33 r cl)) (zp_B (zψ_vt33 r cl)) ∧ zk_cok w zt_TB zK_vt33 := by
  refine zp_methX (cn := "WoundTown$Text") zp_lkallTx hW (pl := 794) rfl (by decide +kernel) (fun p e R s m args below meth c Q u hx hb hE hQ hU5 heff hnL hok hφ => ?_)
  have hw := hW.1
  obtain ⟨p0, p1, p2, hps, k0, k1, k2⟩ := zp_ps3 hok
  obtain ⟨a, rfl, hp⟩ := zp_this k0
  have hrm : zk_Kr (zk_ev (zt_types, zp_lkTx, zt_dv, [], [], zp_lcTx, zK_vt33)) = zk_Kr zK_vt33 := rfl
  rw [hps] at hφ ⊢
  have hi2 := zp_int k2
  show zp_J p l e R s m args below meth c Q w u [] 0 [(0, 2, (a : Int)), (1, 2, p1), (2, 0, p2)] [] u.1 (zp_n u.2.1)
  obtain ⟨hr1, g6, hcl⟩ : p1 = (r : Int) ∧ zp_n u.2.1 a 6 = ((cl + 1 : Nat) : Int) ∧ cl < 12 := hφ
  subst hr1
  have qr : u.1 r = some 33 := by
    obtain ⟨r9, e9, q9⟩ := zp_this k1
    have : r = r9 := by omega
    rw [this]
    exact q9
  refine zp_load (pc := 0) hx hb (zd_X8_tell (0, .aload_n 0, 1, 0, []) (List.mem_of_getElem? (i := 0) rfl)) rfl (j := 0) rfl ?_
  refine zp_getf (n := ((cl : Int) + 1)) (pc := 1) hx hb hE hw (zd_X8_tell (1, .getfield 41, 3, 0, []) (List.mem_of_getElem? (i := 1) rfl)) (j := 9) rfl rfl rfl hp (g6.trans (by omega)) ?_
  refine zp_const (pc := 4) hx hb (zd_X8_tell (4, .iconst 1, 1, 0, []) (List.mem_of_getElem? (i := 2) rfl)) rfl rfl ?_
  refine zp_icmp (pc := 5) (tgt := 26) hx hb (zd_X8_tell (5, .if_icmp .lt 21, 3, 0, []) (List.mem_of_getElem? (i := 3) rfl)) rfl (fun (hc29 : ((cl : Int) + 1) < 1) => ?_) (fun (hc29 : ¬ (((cl : Int) + 1) < 1)) => ?_)
  · exfalso
    omega
  · refine zp_load (pc := 8) hx hb (zd_X8_tell (8, .aload_n 0, 1, 0, []) (List.mem_of_getElem? (i := 4) rfl)) rfl (j := 0) rfl ?_
    refine zp_getf (n := ((cl : Int) + 1)) (pc := 9) hx hb hE hw (zd_X8_tell (9, .getfield 41, 3, 0, []) (List.mem_of_getElem? (i := 5) rfl)) (j := 9) rfl rfl rfl hp (g6.trans (by omega)) ?_
    refine zp_load (pc := 12) hx hb (zd_X8_tell (12, .aload_n 1, 1, 0, []) (List.mem_of_getElem? (i := 6) rfl)) rfl (j := 1) rfl ?_
    refine zu_alen (len := 12) (pc := 13) hx hb hw (zd_X8_tell (13, .arraylength, 1, 0, []) (List.mem_of_getElem? (i := 7) rfl)) qr ⟨_, rfl, by decide, rfl, rfl⟩ (by decide) ?_
    refine zp_icmp (pc := 14) (tgt := 26) hx hb (zd_X8_tell (14, .if_icmp .gt 12, 3, 0, []) (List.mem_of_getElem? (i := 8) rfl)) rfl (fun (hc30 : 12 < ((cl : Int) + 1)) => ?_) (fun (hc30 : ¬ (12 < ((cl : Int) + 1))) => ?_)
    · exfalso
      omega
    · refine zp_load (pc := 17) hx hb (zd_X8_tell (17, .aload_n 1, 1, 0, []) (List.mem_of_getElem? (i := 9) rfl)) rfl (j := 1) rfl ?_
      refine zp_load (pc := 18) hx hb (zd_X8_tell (18, .aload_n 0, 1, 0, []) (List.mem_of_getElem? (i := 10) rfl)) rfl (j := 0) rfl ?_
      refine zp_getf (n := ((cl : Int) + 1)) (pc := 19) hx hb hE hw (zd_X8_tell (19, .getfield 41, 3, 0, []) (List.mem_of_getElem? (i := 11) rfl)) (j := 9) rfl rfl rfl hp (g6.trans (by omega)) ?_
      refine zp_const (pc := 22) hx hb (zd_X8_tell (22, .iconst 1, 1, 0, []) (List.mem_of_getElem? (i := 12) rfl)) rfl rfl ?_
      refine zp_sub (n := (cl : Int)) (pc := 23) hx hb (zd_X8_tell (23, .isub, 1, 0, []) (List.mem_of_getElem? (i := 13) rfl)) (by omega) (zp_r0 (by omega) (by omega)) ?_
      refine zp_load (pc := 24) hx hb (zd_X8_tell (24, .iload_n 2, 1, 0, []) (List.mem_of_getElem? (i := 14) rfl)) rfl (j := 2) rfl ?_
      refine zp_iast (j := cl) (pc := 25) hx hb hw heff (zd_X8_tell (25, .iastore, 1, 0, []) (List.mem_of_getElem? (i := 15) rfl)) (show zp_ia 1 33 = some (12, 0, 0, (-2147483648), 2147483647) from rfl) qr (by omega) (by omega) (zp_o0 (by omega) (by omega) (by omega) (by omega)) rfl ?_
      refine zp_vret (pc := 26) hx hb hE hQ hU5 rfl (by decide) (zd_X8_tell (26, .return_, 1, 0, []) (List.mem_of_getElem? (i := 16) rfl)) (j := 0) rfl ?_
      rw [hps]
      exact ⟨rfl, zp_set_self, fun j hj => zp_set_ne (Or.inr (by omega))⟩
noncomputable def zK_vt34 : zk_K := (zt_mn 60, prog_10_method_5_code, 3, (Option.none : Option Jvm.ClassFile.FieldType), 1, 8, [(2, 8, 0, 0), (2, 34, 0, 0), (0, 0, 0, 872)], [(none, [])], [(34, 1001, 0)], (0, 0, 0, 0))
noncomputable def zφ_vt34 (r cl : Nat) : (Nat → Option Nat) → (Nat → Nat → Int) → List Int → Prop := fun P G ps => ps.getD 1 0 = (r : Int) ∧ G (zp_0 ps) 6 = ((cl + 1 : Nat) : Int) ∧ cl < 12
noncomputable def zψ_vt34 (r cl : Nat) : (Nat → Option Nat) → (Nat → Nat → Int) → List Int → (Nat → Option Nat) → (Nat → Nat → Int) → Int → Prop := fun P G ps P' G' rn => P' = P ∧ G' r (2000 + cl) = ps.getD 2 0 ∧ ∀ j, j ≠ cl → G' r (2000 + j) = G r (2000 + j)
theorem zX_vt34 {l : Launch} {w : zk_W} (hW : zh_W w) (r cl : Nat) : zk_metX l w zt_dv zt_TB zK_vt34 (zp_A (zφ_vt34 r cl)) (zp_B (zψ_vt34 r cl)) ∧ zk_cok w zt_TB zK_vt34 := by
  refine zp_methX (cn := "WoundTown$Text") zp_lkallTx hW (pl := 794) rfl (by decide +kernel) (fun p e R s m args below meth c Q u hx hb hE hQ hU5 heff hnL hok hφ => ?_)
  have hw := hW.1
  obtain ⟨p0, p1, p2, hps, k0, k1, k2⟩ := zp_ps3 hok
  obtain ⟨a, rfl, hp⟩ := zp_this k0
  have hrm : zk_Kr (zk_ev (zt_types, zp_lkTx, zt_dv, [], [], zp_lcTx, zK_vt34)) = zk_Kr zK_vt34 := rfl
  rw [hps] at hφ ⊢
  have hi2 := zp_int k2
  show zp_J p l e R s m args below meth c Q w u [] 0 [(0, 2, (a : Int)), (1, 2, p1), (2, 0, p2)] [] u.1 (zp_n u.2.1)
  obtain ⟨hr1, g6, hcl⟩ : p1 = (r : Int) ∧ zp_n u.2.1 a 6 = ((cl + 1 : Nat) : Int) ∧ cl < 12 := hφ
  subst hr1
  have qr : u.1 r = some 34 := by
    obtain ⟨r9, e9, q9⟩ := zp_this k1
    have : r = r9 := by omega
    rw [this]
    exact q9
  refine zp_load (pc := 0) hx hb (zd_X8_tell (0, .aload_n 0, 1, 0, []) (List.mem_of_getElem? (i := 0) rfl)) rfl (j := 0) rfl ?_
  refine zp_getf (n := ((cl : Int) + 1)) (pc := 1) hx hb hE hw (zd_X8_tell (1, .getfield 41, 3, 0, []) (List.mem_of_getElem? (i := 1) rfl)) (j := 9) rfl rfl rfl hp (g6.trans (by omega)) ?_
  refine zp_const (pc := 4) hx hb (zd_X8_tell (4, .iconst 1, 1, 0, []) (List.mem_of_getElem? (i := 2) rfl)) rfl rfl ?_
  refine zp_icmp (pc := 5) (tgt := 26) hx hb (zd_X8_tell (5, .if_icmp .lt 21, 3, 0, []) (List.mem_of_getElem? (i := 3) rfl)) rfl (fun (hc31 : ((cl : Int) + 1) < 1) => ?_) (fun (hc31 : ¬ (((cl : Int) + 1) < 1)) => ?_)
  · exfalso
    omega
  · refine zp_load (pc := 8) hx hb (zd_X8_tell (8, .aload_n 0, 1, 0, []) (List.mem_of_getElem? (i := 4) rfl)) rfl (j := 0) rfl ?_
    refine zp_getf (n := ((cl : Int) + 1)) (pc := 9) hx hb hE hw (zd_X8_tell (9, .getfield 41, 3, 0, []) (List.mem_of_getElem? (i := 5) rfl)) (j := 9) rfl rfl rfl hp (g6.trans (by omega)) ?_
    refine zp_load (pc := 12) hx hb (zd_X8_tell (12, .aload_n 1, 1, 0, []) (List.mem_of_getElem? (i := 6) rfl)) rfl (j := 1) rfl ?_
    refine zu_alen (len := 12) (pc := 13) hx hb hw (zd_X8_tell (13, .arraylength, 1, 0, []) (List.mem_of_getElem? (i := 7) rfl)) qr ⟨_, rfl, by decide, rfl, rfl⟩ (by decide) ?_
    refine zp_icmp (pc := 14) (tgt := 26) hx hb (zd_X8_tell (14, .if_icmp .gt 12, 3, 0, []) (List.mem_of_getElem? (i := 8) rfl)) rfl (fun (hc32 : 12 < ((cl : Int) + 1)) => ?_) (fun (hc32 : ¬ (12 < ((cl : Int) + 1))) => ?_)
    · exfalso
      omega
    · refine zp_load (pc := 17) hx hb (zd_X8_tell (17, .aload_n 1, 1, 0, []) (List.mem_of_getElem? (i := 9) rfl)) rfl (j := 1) rfl ?_
      refine zp_load (pc := 18) hx hb (zd_X8_tell (18, .aload_n 0, 1, 0, []) (List.mem_of_getElem? (i := 10) rfl)) rfl (j := 0) rfl ?_
      refine zp_getf (n := ((cl : Int) + 1)) (pc := 19) hx hb hE hw (zd_X8_tell (19, .getfield 41, 3, 0, []) (List.mem_of_getElem? (i := 11) rfl)) (j := 9) rfl rfl rfl hp (g6.trans (by omega)) ?_
      refine zp_const (pc := 22) hx hb (zd_X8_tell (22, .iconst 1, 1, 0, []) (List.mem_of_getElem? (i := 12) rfl)) rfl rfl ?_
      refine zp_sub (n := (cl : Int)) (pc := 23) hx hb (zd_X8_tell (23, .isub, 1, 0, []) (List.mem_of_getElem? (i := 13) rfl)) (by omega) (zp_r0 (by omega) (by omega)) ?_
      refine zp_load (pc := 24) hx hb (zd_X8_tell (24, .iload_n 2, 1, 0, []) (List.mem_of_getElem? (i := 14) rfl)) rfl (j := 2) rfl ?_
      refine zp_iast (j := cl) (pc := 25) hx hb hw heff (zd_X8_tell (25, .iastore, 1, 0, []) (List.mem_of_getElem? (i := 15) rfl)) (show zp_ia 1 34 = some (12, 0, 0, (-1), 872) from rfl) qr (by omega) (by omega) (zp_o0 (by omega) (by omega) (by omega) (by omega)) rfl ?_
      refine zp_vret (pc := 26) hx hb hE hQ hU5 rfl (by decide) (zd_X8_tell (26, .return_, 1, 0, []) (List.mem_of_getElem? (i := 16) rfl)) (j := 0) rfl ?_
      rw [hps]
      exact ⟨rfl, zp_set_self, fun j hj => zp_set_ne (Or.inr (by omega))⟩
