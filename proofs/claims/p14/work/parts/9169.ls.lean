/-! part ls: the reference over logical cells: a decade's draws -/
/-- the next number that is drawn from -/
noncomputable def zq_nx (s : Int) : Int := (s * 1103 + 12345) % 1000003
theorem zq_nxb {s : Int} : 0 ≤ zq_nx s ∧ zq_nx s ≤ 1000002 := by
  unfold zq_nx
  omega
noncomputable def zK_dr13 : zk_K := (zt_mn 296, prog_14_method_115_code, 2, (Option.some Jvm.ClassFile.FieldType.int), 1, 12, [(2, 13, 0, 0), (0, 0, 1, 1000)], [(some (0, 0, (-2147483648), 2147483647), [])], zUE, (1, 60, 0, 0))
noncomputable def zφ_dr13 (A : Nat → Nat) (V : Nat → Nat → Int) (s9ξ : Int) : (Nat → Option Nat) → (Nat → Nat → Int) → List Int → Prop := fun P G ps => zMVr A V P G ∧ ps.getD 0 0 = (A 0 : Int) ∧ V 0 61 = s9ξ ∧ (0 ≤ s9ξ ∧ s9ξ ≤ 1000002) ∧ (ps.getD 1 0) = 13
noncomputable def zψ_dr13 (A : Nat → Nat) (V : Nat → Nat → Int) (s9ξ : Int) : (Nat → Option Nat) → (Nat → Nat → Int) → List Int → (Nat → Option Nat) → (Nat → Nat → Int) → Int → Prop := fun P G ps P' G' rn => P' = P ∧ zMVr A (zp_set V 0 61 (zq_nx s9ξ)) P' G' ∧ rn = zq_nx s9ξ % 13
theorem zX_dr13 {l : Launch} {w : zk_W} (hWξ : zh_W w) (A : Nat → Nat) (V : Nat → Nat → Int) (s9ξ : Int) : zk_metX l w zt_dv zt_TB zK_dr13 (zp_A (zφ_dr13 A V s9ξ)) (zp_B (zψ_dr13 A V s9ξ)) ∧ zk_cok w zt_TB zK_dr13 := by
  refine zp_methX (cn := "WoundTownModel") zp_lkall hWξ (pl := 2045) rfl (by decide +kernel) (fun p e R s m args below meth c Q u hx hb hEξ hQξ hU5ξ heffξ hnLξ hokξ hφ => ?_)
  have hwξ := hWξ.1
  obtain ⟨p0ξ, p1ξ, hpsξ, tk0, tk1⟩ := zp_ps2 hokξ
  have hrmξ : zk_Kr (zk_ev (zt_types, zp_lk, zt_dv, [], [], zp_lc, zK_dr13)) = zk_Kr zK_dr13 := rfl
  rw [hpsξ] at hφ ⊢
  have hφ : zMVr A V u.1 (zp_n u.2.1) ∧ p0ξ = (A 0 : Int) ∧ V 0 61 = s9ξ ∧ (0 ≤ s9ξ ∧ s9ξ ≤ 1000002) ∧ p1ξ = 13 := hφ
  obtain ⟨⟨M, hMξ, hVξ, hSbξ⟩, rfl, hs61ξ, hs9ξ, rfl⟩ := hφ
  have hi1ξ := zp_int tk1
  show zp_J p l e R s m args below meth c Q w u [] 0 [(0, 2, (A 0 : Int)), (1, 0, 13)] [] u.1 (zp_n u.2.1)
  have hnxξ := zq_nxb (s := s9ξ)
  refine zp_load (pc := 0) hx hb (zd_X12_draw (0, .aload_n 0, 1, 0, []) (List.mem_of_getElem? (i := 0) rfl)) rfl (j := 0) rfl ?_
  refine zp_load (pc := 1) hx hb (zd_X12_draw (1, .aload_n 0, 1, 0, []) (List.mem_of_getElem? (i := 1) rfl)) rfl (j := 0) rfl ?_
  refine zp_getf (n := s9ξ) (pc := 2) hx hb hEξ hwξ (zd_X12_draw (2, .getfield 558, 3, 0, []) (List.mem_of_getElem? (i := 2) rfl)) (j := 79) rfl rfl rfl (zM_P hMξ (List.mem_of_getElem? (i := 0) rfl)) (((zM_G hMξ (List.mem_of_getElem? (i := 0) rfl) 61).trans (hVξ 0 61 (Or.inr (by decide)))).trans hs61ξ) ?_
  refine zp_ldc2 (pc := 5) hx hb hEξ (zd_X12_draw (5, .ldc2_w 561, 3, 0, []) (List.mem_of_getElem? (i := 3) rfl)) (j := 121) rfl ?_
  refine zp_lmulx (n := (s9ξ * 1103)) (pc := 8) hx hb (zd_X12_draw (8, .lmul, 1, 0, []) (List.mem_of_getElem? (i := 4) rfl)) rfl (zp_r1 (by omega) (by omega)) ?_
  refine zp_ldc2 (pc := 9) hx hb hEξ (zd_X12_draw (9, .ldc2_w 563, 3, 0, []) (List.mem_of_getElem? (i := 5) rfl)) (j := 122) rfl ?_
  refine zp_laddx (n := ((s9ξ * 1103) + 12345)) (pc := 12) hx hb (zd_X12_draw (12, .ladd, 1, 0, []) (List.mem_of_getElem? (i := 6) rfl)) rfl (zp_r1 (by omega) (by omega)) ?_
  refine zp_ldc2 (pc := 13) hx hb hEξ (zd_X12_draw (13, .ldc2_w 565, 3, 0, []) (List.mem_of_getElem? (i := 7) rfl)) (j := 123) rfl ?_
  refine zp_lremx (n := (zq_nx s9ξ)) (pc := 16) hx hb (zd_X12_draw (16, .lrem, 1, 0, []) (List.mem_of_getElem? (i := 8) rfl)) (by decide) (Int.tmod_eq_emod_of_nonneg (by omega)) (zp_r1 (by omega) (by omega)) ?_
  refine zp_putf (pc := 17) hx hb hEξ hwξ heffξ (zd_X12_draw (17, .putfield 558, 3, 0, []) (List.mem_of_getElem? (i := 9) rfl)) (j := 79) rfl rfl rfl (zM_P hMξ (List.mem_of_getElem? (i := 0) rfl)) (zp_o1 (by first | assumption | exact zp_r1 (by omega) (by omega))) ?_
  refine zp_load (pc := 20) hx hb (zd_X12_draw (20, .aload_n 0, 1, 0, []) (List.mem_of_getElem? (i := 10) rfl)) rfl (j := 0) rfl ?_
  refine zp_getf (n := (zq_nx s9ξ)) (pc := 21) hx hb hEξ hwξ (zd_X12_draw (21, .getfield 558, 3, 0, []) (List.mem_of_getElem? (i := 11) rfl)) (j := 79) rfl rfl rfl (zM_P hMξ (List.mem_of_getElem? (i := 0) rfl)) zp_set_self ?_
  refine zp_load (pc := 24) hx hb (zd_X12_draw (24, .iload_n 1, 1, 0, []) (List.mem_of_getElem? (i := 12) rfl)) rfl (j := 1) rfl ?_
  refine zp_i2l (pc := 25) hx hb (zd_X12_draw (25, .i2l, 1, 0, []) (List.mem_of_getElem? (i := 13) rfl)) ?_
  refine zp_lremx (n := (zq_nx s9ξ % 13)) (pc := 26) hx hb (zd_X12_draw (26, .lrem, 1, 0, []) (List.mem_of_getElem? (i := 14) rfl)) (by decide) (Int.tmod_eq_emod_of_nonneg (by omega)) (zp_r1 (by omega) (by omega)) ?_
  refine zp_l2i (pc := 27) hx hb (zd_X12_draw (27, .l2i, 1, 0, []) (List.mem_of_getElem? (i := 15) rfl)) (fun x548 r_x548 e_x548 => ?_)
  have i_x548 : x548 = (zq_nx s9ξ % 13) := e_x548 (zp_r0 (by omega) (by omega))
  subst i_x548
  refine zp_iret (pc := 28) (n := (zq_nx s9ξ % 13)) hx hb hEξ hQξ hU5ξ rfl (by decide) (zd_X12_draw (28, .ireturn, 1, 0, []) (List.mem_of_getElem? (i := 16) rfl)) (j := 0) rfl (zp_o0 (by omega) (by omega) (by omega) (by omega)) ?_
  rw [hpsξ]
  refine ⟨rfl, ?_⟩
  exact ⟨⟨(zp_set M 0 61 (zq_nx s9ξ)), (zM_set hMξ (List.mem_of_getElem? (i := 0) rfl) (by decide)), (zV_set hVξ), (zSb_set (by decide) hSbξ)⟩, rfl⟩
noncomputable def zK_dr100 : zk_K := (zt_mn 296, prog_14_method_115_code, 2, (Option.some Jvm.ClassFile.FieldType.int), 1, 12, [(2, 13, 0, 0), (0, 0, 1, 1000)], [(some (0, 0, (-2147483648), 2147483647), [])], zUE, (1, 60, 0, 0))
noncomputable def zφ_dr100 (A : Nat → Nat) (V : Nat → Nat → Int) (s9ξ : Int) : (Nat → Option Nat) → (Nat → Nat → Int) → List Int → Prop := fun P G ps => zMVr A V P G ∧ ps.getD 0 0 = (A 0 : Int) ∧ V 0 61 = s9ξ ∧ (0 ≤ s9ξ ∧ s9ξ ≤ 1000002) ∧ (ps.getD 1 0) = 100
noncomputable def zψ_dr100 (A : Nat → Nat) (V : Nat → Nat → Int) (s9ξ : Int) : (Nat → Option Nat) → (Nat → Nat → Int) → List Int → (Nat → Option Nat) → (Nat → Nat → Int) → Int → Prop := fun P G ps P' G' rn => P' = P ∧ zMVr A (zp_set V 0 61 (zq_nx s9ξ)) P' G' ∧ rn = zq_nx s9ξ % 100
theorem zX_dr100 {l : Launch} {w : zk_W} (hWξ : zh_W w) (A : Nat → Nat) (V : Nat → Nat → Int) (s9ξ : Int) : zk_metX l w zt_dv zt_TB zK_dr100 (zp_A (zφ_dr100 A V s9ξ)) (zp_B (zψ_dr100 A V s9ξ)) ∧ zk_cok w zt_TB zK_dr100 := by
  refine zp_methX (cn := "WoundTownModel") zp_lkall hWξ (pl := 2045) rfl (by decide +kernel) (fun p e R s m args below meth c Q u hx hb hEξ hQξ hU5ξ heffξ hnLξ hokξ hφ => ?_)
  have hwξ := hWξ.1
  obtain ⟨p0ξ, p1ξ, hpsξ, tk0, tk1⟩ := zp_ps2 hokξ
  have hrmξ : zk_Kr (zk_ev (zt_types, zp_lk, zt_dv, [], [], zp_lc, zK_dr100)) = zk_Kr zK_dr100 := rfl
  rw [hpsξ] at hφ ⊢
  have hφ : zMVr A V u.1 (zp_n u.2.1) ∧ p0ξ = (A 0 : Int) ∧ V 0 61 = s9ξ ∧ (0 ≤ s9ξ ∧ s9ξ ≤ 1000002) ∧ p1ξ = 100 := hφ
  obtain ⟨⟨M, hMξ, hVξ, hSbξ⟩, rfl, hs61ξ, hs9ξ, rfl⟩ := hφ
  have hi1ξ := zp_int tk1
  show zp_J p l e R s m args below meth c Q w u [] 0 [(0, 2, (A 0 : Int)), (1, 0, 100)] [] u.1 (zp_n u.2.1)
  have hnxξ := zq_nxb (s := s9ξ)
  refine zp_load (pc := 0) hx hb (zd_X12_draw (0, .aload_n 0, 1, 0, []) (List.mem_of_getElem? (i := 0) rfl)) rfl (j := 0) rfl ?_
  refine zp_load (pc := 1) hx hb (zd_X12_draw (1, .aload_n 0, 1, 0, []) (List.mem_of_getElem? (i := 1) rfl)) rfl (j := 0) rfl ?_
  refine zp_getf (n := s9ξ) (pc := 2) hx hb hEξ hwξ (zd_X12_draw (2, .getfield 558, 3, 0, []) (List.mem_of_getElem? (i := 2) rfl)) (j := 79) rfl rfl rfl (zM_P hMξ (List.mem_of_getElem? (i := 0) rfl)) (((zM_G hMξ (List.mem_of_getElem? (i := 0) rfl) 61).trans (hVξ 0 61 (Or.inr (by decide)))).trans hs61ξ) ?_
  refine zp_ldc2 (pc := 5) hx hb hEξ (zd_X12_draw (5, .ldc2_w 561, 3, 0, []) (List.mem_of_getElem? (i := 3) rfl)) (j := 121) rfl ?_
  refine zp_lmulx (n := (s9ξ * 1103)) (pc := 8) hx hb (zd_X12_draw (8, .lmul, 1, 0, []) (List.mem_of_getElem? (i := 4) rfl)) rfl (zp_r1 (by omega) (by omega)) ?_
  refine zp_ldc2 (pc := 9) hx hb hEξ (zd_X12_draw (9, .ldc2_w 563, 3, 0, []) (List.mem_of_getElem? (i := 5) rfl)) (j := 122) rfl ?_
  refine zp_laddx (n := ((s9ξ * 1103) + 12345)) (pc := 12) hx hb (zd_X12_draw (12, .ladd, 1, 0, []) (List.mem_of_getElem? (i := 6) rfl)) rfl (zp_r1 (by omega) (by omega)) ?_
  refine zp_ldc2 (pc := 13) hx hb hEξ (zd_X12_draw (13, .ldc2_w 565, 3, 0, []) (List.mem_of_getElem? (i := 7) rfl)) (j := 123) rfl ?_
  refine zp_lremx (n := (zq_nx s9ξ)) (pc := 16) hx hb (zd_X12_draw (16, .lrem, 1, 0, []) (List.mem_of_getElem? (i := 8) rfl)) (by decide) (Int.tmod_eq_emod_of_nonneg (by omega)) (zp_r1 (by omega) (by omega)) ?_
  refine zp_putf (pc := 17) hx hb hEξ hwξ heffξ (zd_X12_draw (17, .putfield 558, 3, 0, []) (List.mem_of_getElem? (i := 9) rfl)) (j := 79) rfl rfl rfl (zM_P hMξ (List.mem_of_getElem? (i := 0) rfl)) (zp_o1 (by first | assumption | exact zp_r1 (by omega) (by omega))) ?_
  refine zp_load (pc := 20) hx hb (zd_X12_draw (20, .aload_n 0, 1, 0, []) (List.mem_of_getElem? (i := 10) rfl)) rfl (j := 0) rfl ?_
  refine zp_getf (n := (zq_nx s9ξ)) (pc := 21) hx hb hEξ hwξ (zd_X12_draw (21, .getfield 558, 3, 0, []) (List.mem_of_getElem? (i := 11) rfl)) (j := 79) rfl rfl rfl (zM_P hMξ (List.mem_of_getElem? (i := 0) rfl)) zp_set_self ?_
  refine zp_load (pc := 24) hx hb (zd_X12_draw (24, .iload_n 1, 1, 0, []) (List.mem_of_getElem? (i := 12) rfl)) rfl (j := 1) rfl ?_
  refine zp_i2l (pc := 25) hx hb (zd_X12_draw (25, .i2l, 1, 0, []) (List.mem_of_getElem? (i := 13) rfl)) ?_
  refine zp_lremx (n := (zq_nx s9ξ % 100)) (pc := 26) hx hb (zd_X12_draw (26, .lrem, 1, 0, []) (List.mem_of_getElem? (i := 14) rfl)) (by decide) (Int.tmod_eq_emod_of_nonneg (by omega)) (zp_r1 (by omega) (by omega)) ?_
  refine zp_l2i (pc := 27) hx hb (zd_X12_draw (27, .l2i, 1, 0, []) (List.mem_of_getElem? (i := 15) rfl)) (fun x549 r_x549 e_x549 => ?_)
  have i_x549 : x549 = (zq_nx s9ξ % 100) := e_x549 (zp_r0 (by omega) (by omega))
  subst i_x549
  refine zp_iret (pc := 28) (n := (zq_nx s9ξ % 100)) hx hb hEξ hQξ hU5ξ rfl (by decide) (zd_X12_draw (28, .ireturn, 1, 0, []) (List.mem_of_getElem? (i := 16) rfl)) (j := 0) rfl (zp_o0 (by omega) (by omega) (by omega) (by omega)) ?_
  rw [hpsξ]
  refine ⟨rfl, ?_⟩
  exact ⟨⟨(zp_set M 0 61 (zq_nx s9ξ)), (zM_set hMξ (List.mem_of_getElem? (i := 0) rfl) (by decide)), (zV_set hVξ), (zSb_set (by decide) hSbξ)⟩, rfl⟩
noncomputable def zf_drm (V : Nat → Nat → Int) (s9ξ : Int) (Lwξ : List yK) : Int × (Nat → Nat → Int) := if ¬ ((V 3 (2000 + 5)) % 7) = 6 then if 12 ≤ ((zq_nx s9ξ) % 13) then if (zd_sn (zp_set (zp_set V 0 61 (zq_nx s9ξ)) 0 61 (zq_nx (zq_nx s9ξ))) Lwξ 12) ≤ ((zq_nx (zq_nx s9ξ)) % 100) then (0, (zf_wea (zp_set (zp_set V 0 61 (zq_nx s9ξ)) 0 61 (zq_nx (zq_nx s9ξ))) Lwξ 12).2) else (0, (zp_set (zp_set (zp_set V 0 61 (zq_nx s9ξ)) 0 61 (zq_nx (zq_nx s9ξ))) 3 (2000 + 9) 1)) else if (zd_sn (zp_set (zp_set V 0 61 (zq_nx s9ξ)) 0 61 (zq_nx (zq_nx s9ξ))) Lwξ ((zq_nx s9ξ) % 13)) ≤ ((zq_nx (zq_nx s9ξ)) % 100) then (0, (zf_wea (zp_set (zp_set V 0 61 (zq_nx s9ξ)) 0 61 (zq_nx (zq_nx s9ξ))) Lwξ ((zq_nx s9ξ) % 13)).2) else (0, (zp_set (zp_set (zp_set V 0 61 (zq_nx s9ξ)) 0 61 (zq_nx (zq_nx s9ξ))) 3 (2000 + 9) 1)) else if (V 3 (2000 + 6)) ≤ ((zq_nx s9ξ) % 13) then if (zd_sn (zp_set (zp_set V 0 61 (zq_nx s9ξ)) 0 61 (zq_nx (zq_nx s9ξ))) Lwξ (V 3 (2000 + 6))) ≤ ((zq_nx (zq_nx s9ξ)) % 100) then (0, (zf_wea (zp_set (zp_set V 0 61 (zq_nx s9ξ)) 0 61 (zq_nx (zq_nx s9ξ))) Lwξ (V 3 (2000 + 6))).2) else (0, (zp_set (zp_set (zp_set V 0 61 (zq_nx s9ξ)) 0 61 (zq_nx (zq_nx s9ξ))) 3 (2000 + 9) 1)) else if (zd_sn (zp_set (zp_set V 0 61 (zq_nx s9ξ)) 0 61 (zq_nx (zq_nx s9ξ))) Lwξ ((zq_nx s9ξ) % 13)) ≤ ((zq_nx (zq_nx s9ξ)) % 100) then (0, (zf_wea (zp_set (zp_set V 0 61 (zq_nx s9ξ)) 0 61 (zq_nx (zq_nx s9ξ))) Lwξ ((zq_nx s9ξ) % 13)).2) else (0, (zp_set (zp_set (zp_set V 0 61 (zq_nx s9ξ)) 0 61 (zq_nx (zq_nx s9ξ))) 3 (2000 + 9) 1))
noncomputable def zK_drm : zk_K := (zt_mn 295, prog_14_method_116_code, 3, (Option.none : Option Jvm.ClassFile.FieldType), 1, 12, [(2, 13, 0, 0)], [(none, [])], zUE, (6, 300, 0, 0))
noncomputable def zφ_drm (A : Nat → Nat) (V : Nat → Nat → Int) (s9ξ : Int) (Lwξ : List yK) : (Nat → Option Nat) → (Nat → Nat → Int) → List Int → Prop := fun P G ps => zMVr A V P G ∧ ps.getD 0 0 = (A 0 : Int) ∧ zLV V Lwξ ∧ V 0 61 = s9ξ ∧ (0 ≤ s9ξ ∧ s9ξ ≤ 1000002) ∧ (0 ≤ V 3 (2000 + 5) ∧ V 3 (2000 + 5) ≤ 100000) ∧ 0 ≤ V 3 (2000 + 6) ∧ V 3 (2000 + 6) ≤ 12
noncomputable def zψ_drm (A : Nat → Nat) (V : Nat → Nat → Int) (s9ξ : Int) (Lwξ : List yK) : (Nat → Option Nat) → (Nat → Nat → Int) → List Int → (Nat → Option Nat) → (Nat → Nat → Int) → Int → Prop := fun P G ps P' G' rn => P' = P ∧ zMVr A (zf_drm V s9ξ Lwξ).2 P' G'
theorem zX_drm {l : Launch} {w : zk_W} (hWξ : zh_W w) (A : Nat → Nat) (V : Nat → Nat → Int) (s9ξ : Int) (Lwξ : List yK) : zk_metX l w zt_dv zt_TB zK_drm (zp_A (zφ_drm A V s9ξ Lwξ)) (zp_B (zψ_drm A V s9ξ Lwξ)) ∧ zk_cok w zt_TB zK_drm := by
  refine zp_methX (cn := "WoundTownModel") zp_lkall hWξ (pl := 2041) rfl (by decide +kernel) (fun p e R s m args below meth c Q u hx hb hEξ hQξ hU5ξ heffξ hnLξ hokξ hφ => ?_)
  have hwξ := hWξ.1
  obtain ⟨p0ξ, hpsξ, tk0⟩ := zp_ps1 hokξ
  have hrmξ : zk_Kr (zk_ev (zt_types, zp_lk, zt_dv, [], [], zp_lc, zK_drm)) = zk_Kr zK_drm := rfl
  rw [hpsξ] at hφ ⊢
  have hφ : zMVr A V u.1 (zp_n u.2.1) ∧ p0ξ = (A 0 : Int) ∧ zLV V Lwξ ∧ V 0 61 = s9ξ ∧ (0 ≤ s9ξ ∧ s9ξ ≤ 1000002) ∧ (0 ≤ V 3 (2000 + 5) ∧ V 3 (2000 + 5) ≤ 100000) ∧ 0 ≤ V 3 (2000 + 6) ∧ V 3 (2000 + 6) ≤ 12 := hφ
  obtain ⟨⟨M, hMξ, hVξ, hSbξ⟩, rfl, hLVξ, hs61ξ, hs9ξ, ⟨hd5ξ, hd5bξ⟩, hd6ξ, hd6bξ⟩ := hφ
  show zp_J p l e R s m args below meth c Q w u [] 0 [(0, 2, (A 0 : Int))] [] u.1 (zp_n u.2.1)
  refine zp_load (pc := 0) hx hb (zd_X12_drawMorning (0, .aload_n 0, 1, 0, []) (List.mem_of_getElem? (i := 0) rfl)) rfl (j := 0) rfl ?_
  refine zp_const (pc := 1) hx hb (zd_X12_drawMorning (1, .bipush 13, 2, 0, []) (List.mem_of_getElem? (i := 1) rfl)) rfl rfl ?_
  refine zp_call (pc := 3) (how := 0) (idx := 567) (mi := 296) (S := []) hx hb hEξ hwξ heffξ hrmξ (zX_dr13 hWξ A V s9ξ) rfl (j := 75) rfl rfl (by decide +kernel) (zd_X12_drawMorning (3, .invokevirtual 567, 3, 0, []) (List.mem_of_getElem? (i := 2) rfl)) [(A 0 : Int), 13] rfl ⟨zp_o2 (zM_P hMξ (List.mem_of_getElem? (i := 0) rfl)), zp_o0 (by decide) (by decide) (by decide) (by decide), trivial⟩ (Nat.le_of_ble_eq_true rfl) ⟨⟨M, hMξ, hVξ, hSbξ⟩, rfl, hs61ξ, by omega, rfl⟩ (fun al halξ rnd550ξ Pd550 Gd550 hextd550ξ hfrd550ξ hokd550ξ hcsd550ξ hpsid550ξ => ?_)
  obtain rfl := List.mem_singleton.mp halξ
  have hrd550ξ := zp_int (hokd550ξ _ rfl).1
  obtain ⟨hPed550ξ, ⟨Md550, hMd550ξ, hVd550ξ, hSbd550ξ⟩, htd550ξ⟩ := hpsid550ξ
  subst hPed550ξ
  clear hextd550ξ hfrd550ξ hcsd550ξ hokd550ξ
  have hVd550ξ : ∀ o k, zNs o k → Md550 o k = (zp_set V 0 61 (zq_nx s9ξ)) o k := hVd550ξ
  have hnxd550ξ := zq_nxb (s := s9ξ)
  have htd550ξ : rnd550ξ = ((zq_nx s9ξ) % 13) := htd550ξ
  have htd550ξ := (Eq.symm htd550ξ)
  subst htd550ξ
  have hLd550ξ : zLV (zp_set V 0 61 (zq_nx s9ξ)) Lwξ := zLV_o (by decide) (Or.inr (by decide)) hLVξ
  refine zp_store (L' := [(1, 0, ((zq_nx s9ξ) % 13)), (0, 2, (A 0 : Int))]) (pc := 6) hx hb hnLξ (zd_X12_drawMorning (6, .istore_n 1, 1, 0, []) (List.mem_of_getElem? (i := 3) rfl)) rfl rfl rfl ?_
  refine zp_load (pc := 7) hx hb (zd_X12_drawMorning (7, .aload_n 0, 1, 0, []) (List.mem_of_getElem? (i := 4) rfl)) rfl (j := 1) rfl ?_
  refine zp_call (pc := 8) (how := 0) (idx := 411) (mi := 241) (S := []) hx hb hEξ hwξ heffξ hrmξ (zX_toda hWξ A Md550) rfl (j := 41) rfl rfl (by decide +kernel) (zd_X12_drawMorning (8, .invokevirtual 411, 3, 0, []) (List.mem_of_getElem? (i := 5) rfl)) [(A 0 : Int)] rfl ⟨zp_o2 (zM_P hMd550ξ (List.mem_of_getElem? (i := 0) rfl)), trivial⟩ (Nat.le_of_ble_eq_true rfl) ⟨hMd550ξ, rfl, (show -2147483648 ≤ Md550 3 (2000 + 5) ∧ Md550 3 (2000 + 5) ≤ 2147483647 by rw [((hVd550ξ 3 (2000 + 5) (Or.inl (by decide))).trans (zp_set_ne (Or.inl (by decide))))]; omega)⟩ (fun al halξ rnd551ξ Pd551 Gd551 hextd551ξ hfrd551ξ hokd551ξ hcsd551ξ hpsid551ξ => ?_)
  obtain rfl := List.mem_singleton.mp halξ
  have hrd551ξ := zp_int (hokd551ξ _ rfl).1
  obtain ⟨hPed551ξ, hGed551ξ, htd551ξ⟩ := hpsid551ξ
  rw [hPed551ξ, hGed551ξ]
  clear hextd551ξ hfrd551ξ hcsd551ξ hPed551ξ hGed551ξ
  have htd551ξ : rnd551ξ = (V 3 (2000 + 5)) := (Eq.trans htd551ξ) (((hVd550ξ 3 (2000 + 5) (Or.inl (by decide))).trans (zp_set_ne (Or.inl (by decide)))))
  have htd551ξ := (Eq.symm htd551ξ)
  subst htd551ξ
  refine zp_const (pc := 11) hx hb (zd_X12_drawMorning (11, .bipush 7, 2, 0, []) (List.mem_of_getElem? (i := 6) rfl)) rfl rfl ?_
  refine zp_iremx (n := ((V 3 (2000 + 5)) % 7)) (pc := 13) hx hb (zd_X12_drawMorning (13, .irem, 1, 0, []) (List.mem_of_getElem? (i := 7) rfl)) (by decide) (Int.tmod_eq_emod_of_nonneg (by omega)) (zp_r0 (by omega) (by omega)) ?_
  refine zp_const (pc := 14) hx hb (zd_X12_drawMorning (14, .bipush 6, 2, 0, []) (List.mem_of_getElem? (i := 8) rfl)) rfl rfl ?_
  refine zp_icmp (pc := 16) (tgt := 29) hx hb (zd_X12_drawMorning (16, .if_icmp .ne 13, 3, 0, []) (List.mem_of_getElem? (i := 9) rfl)) rfl (fun (hc552ξ : ¬ ((V 3 (2000 + 5)) % 7) = 6) => ?_) (fun (hc552ξ : ¬ (¬ ((V 3 (2000 + 5)) % 7) = 6)) => ?_)
  · refine zp_const (pc := 29) hx hb (zd_X12_drawMorning (29, .bipush 12, 2, 0, []) (List.mem_of_getElem? (i := 15) rfl)) rfl rfl ?_
    refine zp_store (L' := [(2, 0, 12), (1, 0, ((zq_nx s9ξ) % 13)), (0, 2, (A 0 : Int))]) (pc := 31) hx hb hnLξ (zd_X12_drawMorning (31, .istore_n 2, 1, 0, []) (List.mem_of_getElem? (i := 16) rfl)) rfl rfl rfl ?_
    refine zp_load (pc := 32) hx hb (zd_X12_drawMorning (32, .iload_n 1, 1, 0, []) (List.mem_of_getElem? (i := 17) rfl)) rfl (j := 1) rfl ?_
    refine zp_load (pc := 33) hx hb (zd_X12_drawMorning (33, .iload_n 2, 1, 0, []) (List.mem_of_getElem? (i := 18) rfl)) rfl (j := 0) rfl ?_
    refine zp_icmp (pc := 34) (tgt := 41) hx hb (zd_X12_drawMorning (34, .if_icmp .ge 7, 3, 0, []) (List.mem_of_getElem? (i := 19) rfl)) rfl (fun (hc553ξ : 12 ≤ ((zq_nx s9ξ) % 13)) => ?_) (fun (hc553ξ : ¬ (12 ≤ ((zq_nx s9ξ) % 13))) => ?_)
    · refine zp_load (pc := 41) hx hb (zd_X12_drawMorning (41, .iload_n 2, 1, 0, []) (List.mem_of_getElem? (i := 22) rfl)) rfl (j := 0) rfl ?_
      refine zp_store (L' := [(1, 0, 12), (2, 0, 12), (0, 2, (A 0 : Int))]) (pc := 42) hx hb hnLξ (zd_X12_drawMorning (42, .istore_n 1, 1, 0, []) (List.mem_of_getElem? (i := 23) rfl)) rfl rfl rfl ?_
      refine zp_load (pc := 43) hx hb (zd_X12_drawMorning (43, .aload_n 0, 1, 0, []) (List.mem_of_getElem? (i := 24) rfl)) rfl (j := 2) rfl ?_
      refine zp_const (pc := 44) hx hb (zd_X12_drawMorning (44, .bipush 100, 2, 0, []) (List.mem_of_getElem? (i := 25) rfl)) rfl rfl ?_
      refine zp_call (pc := 46) (how := 0) (idx := 567) (mi := 296) (S := []) hx hb hEξ hwξ heffξ hrmξ (zX_dr100 hWξ A (zp_set V 0 61 (zq_nx s9ξ)) (zq_nx s9ξ)) rfl (j := 75) rfl rfl (by decide +kernel) (zd_X12_drawMorning (46, .invokevirtual 567, 3, 0, []) (List.mem_of_getElem? (i := 26) rfl)) [(A 0 : Int), 100] rfl ⟨zp_o2 (zM_P hMd550ξ (List.mem_of_getElem? (i := 0) rfl)), zp_o0 (by decide) (by decide) (by decide) (by decide), trivial⟩ (Nat.le_of_ble_eq_true rfl) ⟨⟨Md550, hMd550ξ, hVd550ξ, hSbd550ξ⟩, rfl, zp_set_self, by omega, rfl⟩ (fun al halξ rnd554ξ Pd554 Gd554 hextd554ξ hfrd554ξ hokd554ξ hcsd554ξ hpsid554ξ => ?_)
      obtain rfl := List.mem_singleton.mp halξ
      have hrd554ξ := zp_int (hokd554ξ _ rfl).1
      obtain ⟨hPed554ξ, ⟨Md554, hMd554ξ, hVd554ξ, hSbd554ξ⟩, htd554ξ⟩ := hpsid554ξ
      subst hPed554ξ
      clear hextd554ξ hfrd554ξ hcsd554ξ hokd554ξ
      have hVd554ξ : ∀ o k, zNs o k → Md554 o k = (zp_set (zp_set V 0 61 (zq_nx s9ξ)) 0 61 (zq_nx (zq_nx s9ξ))) o k := hVd554ξ
      have hnxd554ξ := zq_nxb (s := (zq_nx s9ξ))
      have htd554ξ : rnd554ξ = ((zq_nx (zq_nx s9ξ)) % 100) := htd554ξ
      have htd554ξ := (Eq.symm htd554ξ)
      subst htd554ξ
      have hLd554ξ : zLV (zp_set (zp_set V 0 61 (zq_nx s9ξ)) 0 61 (zq_nx (zq_nx s9ξ))) Lwξ := zLV_o (by decide) (Or.inr (by decide)) hLd550ξ
      refine zp_load (pc := 49) hx hb (zd_X12_drawMorning (49, .aload_n 0, 1, 0, []) (List.mem_of_getElem? (i := 27) rfl)) rfl (j := 2) rfl ?_
      refine zp_load (pc := 50) hx hb (zd_X12_drawMorning (50, .iload_n 1, 1, 0, []) (List.mem_of_getElem? (i := 28) rfl)) rfl (j := 0) rfl ?_
      have hMqa555ξ : zM A zYr zFr Md554 u.1 Gd554 := hMd554ξ
      have hVqa555ξ : ∀ o k, zNs o k → Md554 o k = (zp_set (zp_set V 0 61 (zq_nx s9ξ)) 0 61 (zq_nx (zq_nx s9ξ))) o k := hVd554ξ
      have hSqa555ξ : zSb Md554 := hSbd554ξ
      have hLqa555ξ : zLV (zp_set (zp_set V 0 61 (zq_nx s9ξ)) 0 61 (zq_nx (zq_nx s9ξ))) Lwξ := hLd554ξ
      have htaa555ξ : 0 ≤ 12 ∧ 12 ≤ 31 := by omega
      refine zp_call (pc := 51) (how := 0) (idx := 436) (mi := 246) (S := [(0, ((zq_nx (zq_nx s9ξ)) % 100))]) hx hb hEξ hwξ heffξ hrmξ (zX_sno hWξ (A 3) (A 35) (A 37) (fun j => (zp_set (zp_set V 0 61 (zq_nx s9ξ)) 0 61 (zq_nx (zq_nx s9ξ))) 3 (2000 + j)) (fun j => Md554 35 (2000 + j)) Lwξ) rfl (j := 46) rfl rfl (by decide +kernel) (zd_X12_drawMorning (51, .invokevirtual 436, 3, 0, []) (List.mem_of_getElem? (i := 29) rfl)) [(A 0 : Int), 12] rfl ⟨zp_o2 (zM_P hMd554ξ (List.mem_of_getElem? (i := 0) rfl)), zp_o0 (by omega) (by omega) (by omega) (by omega), trivial⟩ (Nat.le_of_ble_eq_true rfl) ⟨⟨⟨⟨(zM_G hMqa555ξ (List.mem_of_getElem? (i := 0) rfl) 20).trans ((hVqa555ξ 0 20 (Or.inr (by decide))).trans hLqa555ξ.2.2.2.2), (zM_G hMqa555ξ (List.mem_of_getElem? (i := 0) rfl) 3).trans (zM_F hMqa555ξ (List.mem_of_getElem? (i := 1) rfl)), (zM_G hMqa555ξ (List.mem_of_getElem? (i := 0) rfl) 35).trans (zM_F hMqa555ξ (List.mem_of_getElem? (i := 17) rfl)), (zM_G hMqa555ξ (List.mem_of_getElem? (i := 0) rfl) 37).trans (zM_F hMqa555ξ (List.mem_of_getElem? (i := 19) rfl)), fun j => (zM_G hMqa555ξ (List.mem_of_getElem? (i := 2) rfl) (2000 + j)).trans (hVqa555ξ 3 _ (Or.inl (by decide))), fun j => zM_G hMqa555ξ (List.mem_of_getElem? (i := 18) rfl) (2000 + j)⟩, zM_P hMqa555ξ (List.mem_of_getElem? (i := 2) rfl), zM_P hMqa555ξ (List.mem_of_getElem? (i := 18) rfl), zM_P hMqa555ξ (List.mem_of_getElem? (i := 20) rfl), hLqa555ξ.1, hSqa555ξ⟩, hLqa555ξ.2.1⟩, (show 0 ≤ 12 by omega), (show 12 ≤ _ by omega)⟩ (fun al halξ rna555ξ Pa555 Ga555 hexta555ξ hfra555ξ hoka555ξ hcsa555ξ hpsia555ξ => ?_)
      obtain rfl := List.mem_singleton.mp halξ
      have hra555ξ := zp_int (hoka555ξ _ rfl).1
      obtain ⟨hPea555ξ, hta555ξ⟩ := hpsia555ξ
      have hMa555ξ := zM_eff (eff := [(13, 34, 0), (75, 1001, 0), (13, 38, 0), (13, 39, 0), (13, 40, 0), (77, 1001, 0)]) hMqa555ξ hfra555ξ hexta555ξ (zM_fb (by decide +kernel))
      subst hPea555ξ
      obtain ⟨Ma555, hMa555ξ, hMfa555ξ⟩ := hMa555ξ
      have hVa555ξ : ∀ o k, zNs o k → Ma555 o k = (zp_set (zp_set V 0 61 (zq_nx s9ξ)) 0 61 (zq_nx (zq_nx s9ξ))) o k := fun o k hkξ => (zMf_s hMfa555ξ hkξ).trans (hVqa555ξ o k hkξ)
      clear hMfa555ξ hfra555ξ hexta555ξ hoka555ξ hcsa555ξ hVqa555ξ hMqa555ξ hSqa555ξ
      obtain ⟨hta555ξ, hSza555ξ⟩ := hta555ξ
      have hSba555ξ : zSb Ma555 := fun j hjξ => by rw [← zM_G hMa555ξ (List.mem_of_getElem? (i := 18) rfl) (2000 + j)]; exact hSza555ξ j hjξ
      have hta555ξ : rna555ξ = (zd_sn (zp_set (zp_set V 0 61 (zq_nx s9ξ)) 0 61 (zq_nx (zq_nx s9ξ))) Lwξ 12) := Eq.trans hta555ξ (zy_sn_9 hLqa555ξ.2.2.1)
      have hta555ξ := (Eq.symm hta555ξ)
      subst hta555ξ
      have hba555ξ := zd_snb (V := (zp_set (zp_set V 0 61 (zq_nx s9ξ)) 0 61 (zq_nx (zq_nx s9ξ)))) (L := Lwξ) (t := 12)
      refine zp_icmp (pc := 54) (tgt := 68) hx hb (zd_X12_drawMorning (54, .if_icmp .ge 14, 3, 0, []) (List.mem_of_getElem? (i := 30) rfl)) rfl (fun (hc556ξ : (zd_sn (zp_set (zp_set V 0 61 (zq_nx s9ξ)) 0 61 (zq_nx (zq_nx s9ξ))) Lwξ 12) ≤ ((zq_nx (zq_nx s9ξ)) % 100)) => ?_) (fun (hc556ξ : ¬ ((zd_sn (zp_set (zp_set V 0 61 (zq_nx s9ξ)) 0 61 (zq_nx (zq_nx s9ξ))) Lwξ 12) ≤ ((zq_nx (zq_nx s9ξ)) % 100))) => ?_)
      · refine zp_load (pc := 68) hx hb (zd_X12_drawMorning (68, .aload_n 0, 1, 0, []) (List.mem_of_getElem? (i := 37) rfl)) rfl (j := 2) rfl ?_
        refine zp_load (pc := 69) hx hb (zd_X12_drawMorning (69, .iload_n 1, 1, 0, []) (List.mem_of_getElem? (i := 38) rfl)) rfl (j := 0) rfl ?_
        refine zp_call (pc := 70) (how := 0) (idx := 499) (mi := 278) (S := []) hx hb hEξ hwξ heffξ hrmξ (zX_wea hWξ A (zp_set (zp_set V 0 61 (zq_nx s9ξ)) 0 61 (zq_nx (zq_nx s9ξ))) Lwξ) rfl (j := 63) rfl rfl (by decide +kernel) (zd_X12_drawMorning (70, .invokevirtual 499, 3, 0, []) (List.mem_of_getElem? (i := 39) rfl)) [(A 0 : Int), 12] rfl ⟨zp_o2 (zM_P hMa555ξ (List.mem_of_getElem? (i := 0) rfl)), zp_o0 (by omega) (by omega) (by omega) (by omega), trivial⟩ (Nat.le_of_ble_eq_true rfl) ⟨⟨Ma555, hMa555ξ, hVa555ξ, hSba555ξ⟩, rfl, hLqa555ξ, (show 0 ≤ 12 by omega), (show 12 ≤ 12 by omega)⟩ (fun al halξ rnm557ξ Pm557 Gm557 hextm557ξ hfrm557ξ hokm557ξ hcsm557ξ hpsim557ξ => ?_)
        obtain rfl := List.mem_singleton.mp halξ
        have hrm557ξ := zp_int (hokm557ξ _ rfl).1
        obtain ⟨hPem557ξ, ⟨Mm557, hMm557ξ, hVm557ξ, hSbm557ξ⟩, htm557ξ⟩ := hpsim557ξ
        subst hPem557ξ
        clear hextm557ξ hfrm557ξ hcsm557ξ hokm557ξ
        have hVm557ξ : ∀ o k, zNs o k → Mm557 o k = (zf_wea (zp_set (zp_set V 0 61 (zq_nx s9ξ)) 0 61 (zq_nx (zq_nx s9ξ))) Lwξ 12).2 o k := hVm557ξ
        have htm557ξ : rnm557ξ = ((zf_wea (zp_set (zp_set V 0 61 (zq_nx s9ξ)) 0 61 (zq_nx (zq_nx s9ξ))) Lwξ 12).1) := htm557ξ
        have htm557ξ := (Eq.symm htm557ξ)
        subst htm557ξ
        have hwm557ξ : 0 ≤ ((zf_wea (zp_set (zp_set V 0 61 (zq_nx s9ξ)) 0 61 (zq_nx (zq_nx s9ξ))) Lwξ 12).2 3 (2000 + 8)) ∧ ((zf_wea (zp_set (zp_set V 0 61 (zq_nx s9ξ)) 0 61 (zq_nx (zq_nx s9ξ))) Lwξ 12).2 3 (2000 + 8)) ≤ 9999 := by rw [zf_wea_8]; omega
        refine zp_pop (pc := 73) hx hb (zd_X12_drawMorning (73, .pop, 1, 0, []) (List.mem_of_getElem? (i := 40) rfl)) (show (0 : Nat) ≠ 1 by decide) ?_
        refine zp_vret (pc := 74) hx hb hEξ hQξ hU5ξ rfl (by decide) (zd_X12_drawMorning (74, .return_, 1, 0, []) (List.mem_of_getElem? (i := 41) rfl)) (j := 0) rfl ?_
        rw [hpsξ]
        refine ⟨rfl, ?_⟩
        have hffξ : zf_drm V s9ξ Lwξ = (0, (zf_wea (zp_set (zp_set V 0 61 (zq_nx s9ξ)) 0 61 (zq_nx (zq_nx s9ξ))) Lwξ 12).2) := by
          unfold zf_drm
          rw [if_pos hc552ξ, if_pos hc553ξ, if_pos hc556ξ]
        show zMVr A (zf_drm V s9ξ Lwξ).2 u.1 Gm557
        rw [hffξ]
        exact ⟨Mm557, hMm557ξ, hVm557ξ, hSbm557ξ⟩
      · refine zp_load (pc := 57) hx hb (zd_X12_drawMorning (57, .aload_n 0, 1, 0, []) (List.mem_of_getElem? (i := 31) rfl)) rfl (j := 2) rfl ?_
        refine zp_getf (n := (A 3 : Int)) (pc := 58) hx hb hEξ hwξ (zd_X12_drawMorning (58, .getfield 13, 3, 0, []) (List.mem_of_getElem? (i := 32) rfl)) (j := 21) rfl rfl rfl (zM_P hMa555ξ (List.mem_of_getElem? (i := 0) rfl)) ((zM_G hMa555ξ (List.mem_of_getElem? (i := 0) rfl) 3).trans (zM_F hMa555ξ (List.mem_of_getElem? (i := 1) rfl))) ?_
        refine zp_const (pc := 61) hx hb (zd_X12_drawMorning (61, .bipush 9, 2, 0, []) (List.mem_of_getElem? (i := 33) rfl)) rfl rfl ?_
        refine zp_const (pc := 63) hx hb (zd_X12_drawMorning (63, .iconst 1, 1, 0, []) (List.mem_of_getElem? (i := 34) rfl)) rfl rfl ?_
        refine zp_iastR (j := 9) (pc := 64) hx hb hwξ heffξ (zd_X12_drawMorning (64, .iastore, 1, 0, []) (List.mem_of_getElem? (i := 35) rfl)) (zM_P hMa555ξ (List.mem_of_getElem? (i := 2) rfl)) (by omega) (show 9 < 180 by omega) (zr_st (lo := (-2147483648)) (hi := 2147483647) ⟨rfl, rfl, rfl⟩ (by omega) (by omega) (by omega) (by omega)) ⟨1002, rfl, zp_1002 (by omega)⟩ ?_
        refine zp_goto (tgt := 74) (pc := 65) hx hb (zd_X12_drawMorning (65, .goto 9, 3, 0, []) (List.mem_of_getElem? (i := 36) rfl)) rfl ?_
        refine zp_vret (pc := 74) hx hb hEξ hQξ hU5ξ rfl (by decide) (zd_X12_drawMorning (74, .return_, 1, 0, []) (List.mem_of_getElem? (i := 41) rfl)) (j := 0) rfl ?_
        rw [hpsξ]
        refine ⟨rfl, ?_⟩
        have hffξ : zf_drm V s9ξ Lwξ = (0, (zp_set (zp_set (zp_set V 0 61 (zq_nx s9ξ)) 0 61 (zq_nx (zq_nx s9ξ))) 3 (2000 + 9) 1)) := by
          unfold zf_drm
          rw [if_pos hc552ξ, if_pos hc553ξ, if_neg hc556ξ]
        show zMVr A (zf_drm V s9ξ Lwξ).2 u.1 (zp_set Ga555 (A 3) (2000 + 9) 1)
        rw [hffξ]
        exact ⟨(zp_set Ma555 3 (2000 + 9) 1), (zM_setE hMa555ξ (List.mem_of_getElem? (i := 2) rfl)), (zV_set hVa555ξ), (zSb_set (by decide) hSba555ξ)⟩
    · refine zp_load (pc := 37) hx hb (zd_X12_drawMorning (37, .iload_n 1, 1, 0, []) (List.mem_of_getElem? (i := 20) rfl)) rfl (j := 1) rfl ?_
      refine zp_goto (tgt := 42) (pc := 38) hx hb (zd_X12_drawMorning (38, .goto 4, 3, 0, []) (List.mem_of_getElem? (i := 21) rfl)) rfl ?_
      refine zp_store (L' := [(1, 0, ((zq_nx s9ξ) % 13)), (2, 0, 12), (0, 2, (A 0 : Int))]) (pc := 42) hx hb hnLξ (zd_X12_drawMorning (42, .istore_n 1, 1, 0, []) (List.mem_of_getElem? (i := 23) rfl)) rfl rfl rfl ?_
      refine zp_load (pc := 43) hx hb (zd_X12_drawMorning (43, .aload_n 0, 1, 0, []) (List.mem_of_getElem? (i := 24) rfl)) rfl (j := 2) rfl ?_
      refine zp_const (pc := 44) hx hb (zd_X12_drawMorning (44, .bipush 100, 2, 0, []) (List.mem_of_getElem? (i := 25) rfl)) rfl rfl ?_
      refine zp_call (pc := 46) (how := 0) (idx := 567) (mi := 296) (S := []) hx hb hEξ hwξ heffξ hrmξ (zX_dr100 hWξ A (zp_set V 0 61 (zq_nx s9ξ)) (zq_nx s9ξ)) rfl (j := 75) rfl rfl (by decide +kernel) (zd_X12_drawMorning (46, .invokevirtual 567, 3, 0, []) (List.mem_of_getElem? (i := 26) rfl)) [(A 0 : Int), 100] rfl ⟨zp_o2 (zM_P hMd550ξ (List.mem_of_getElem? (i := 0) rfl)), zp_o0 (by decide) (by decide) (by decide) (by decide), trivial⟩ (Nat.le_of_ble_eq_true rfl) ⟨⟨Md550, hMd550ξ, hVd550ξ, hSbd550ξ⟩, rfl, zp_set_self, by omega, rfl⟩ (fun al halξ rnd558ξ Pd558 Gd558 hextd558ξ hfrd558ξ hokd558ξ hcsd558ξ hpsid558ξ => ?_)
      obtain rfl := List.mem_singleton.mp halξ
      have hrd558ξ := zp_int (hokd558ξ _ rfl).1
      obtain ⟨hPed558ξ, ⟨Md558, hMd558ξ, hVd558ξ, hSbd558ξ⟩, htd558ξ⟩ := hpsid558ξ
      subst hPed558ξ
      clear hextd558ξ hfrd558ξ hcsd558ξ hokd558ξ
      have hVd558ξ : ∀ o k, zNs o k → Md558 o k = (zp_set (zp_set V 0 61 (zq_nx s9ξ)) 0 61 (zq_nx (zq_nx s9ξ))) o k := hVd558ξ
      have hnxd558ξ := zq_nxb (s := (zq_nx s9ξ))
      have htd558ξ : rnd558ξ = ((zq_nx (zq_nx s9ξ)) % 100) := htd558ξ
      have htd558ξ := (Eq.symm htd558ξ)
      subst htd558ξ
      have hLd558ξ : zLV (zp_set (zp_set V 0 61 (zq_nx s9ξ)) 0 61 (zq_nx (zq_nx s9ξ))) Lwξ := zLV_o (by decide) (Or.inr (by decide)) hLd550ξ
      refine zp_load (pc := 49) hx hb (zd_X12_drawMorning (49, .aload_n 0, 1, 0, []) (List.mem_of_getElem? (i := 27) rfl)) rfl (j := 2) rfl ?_
      refine zp_load (pc := 50) hx hb (zd_X12_drawMorning (50, .iload_n 1, 1, 0, []) (List.mem_of_getElem? (i := 28) rfl)) rfl (j := 0) rfl ?_
      have hMqa559ξ : zM A zYr zFr Md558 u.1 Gd558 := hMd558ξ
      have hVqa559ξ : ∀ o k, zNs o k → Md558 o k = (zp_set (zp_set V 0 61 (zq_nx s9ξ)) 0 61 (zq_nx (zq_nx s9ξ))) o k := hVd558ξ
      have hSqa559ξ : zSb Md558 := hSbd558ξ
      have hLqa559ξ : zLV (zp_set (zp_set V 0 61 (zq_nx s9ξ)) 0 61 (zq_nx (zq_nx s9ξ))) Lwξ := hLd558ξ
      have htaa559ξ : 0 ≤ ((zq_nx s9ξ) % 13) ∧ ((zq_nx s9ξ) % 13) ≤ 31 := by omega
      refine zp_call (pc := 51) (how := 0) (idx := 436) (mi := 246) (S := [(0, ((zq_nx (zq_nx s9ξ)) % 100))]) hx hb hEξ hwξ heffξ hrmξ (zX_sno hWξ (A 3) (A 35) (A 37) (fun j => (zp_set (zp_set V 0 61 (zq_nx s9ξ)) 0 61 (zq_nx (zq_nx s9ξ))) 3 (2000 + j)) (fun j => Md558 35 (2000 + j)) Lwξ) rfl (j := 46) rfl rfl (by decide +kernel) (zd_X12_drawMorning (51, .invokevirtual 436, 3, 0, []) (List.mem_of_getElem? (i := 29) rfl)) [(A 0 : Int), ((zq_nx s9ξ) % 13)] rfl ⟨zp_o2 (zM_P hMd558ξ (List.mem_of_getElem? (i := 0) rfl)), zp_o0 (by omega) (by omega) (by omega) (by omega), trivial⟩ (Nat.le_of_ble_eq_true rfl) ⟨⟨⟨⟨(zM_G hMqa559ξ (List.mem_of_getElem? (i := 0) rfl) 20).trans ((hVqa559ξ 0 20 (Or.inr (by decide))).trans hLqa559ξ.2.2.2.2), (zM_G hMqa559ξ (List.mem_of_getElem? (i := 0) rfl) 3).trans (zM_F hMqa559ξ (List.mem_of_getElem? (i := 1) rfl)), (zM_G hMqa559ξ (List.mem_of_getElem? (i := 0) rfl) 35).trans (zM_F hMqa559ξ (List.mem_of_getElem? (i := 17) rfl)), (zM_G hMqa559ξ (List.mem_of_getElem? (i := 0) rfl) 37).trans (zM_F hMqa559ξ (List.mem_of_getElem? (i := 19) rfl)), fun j => (zM_G hMqa559ξ (List.mem_of_getElem? (i := 2) rfl) (2000 + j)).trans (hVqa559ξ 3 _ (Or.inl (by decide))), fun j => zM_G hMqa559ξ (List.mem_of_getElem? (i := 18) rfl) (2000 + j)⟩, zM_P hMqa559ξ (List.mem_of_getElem? (i := 2) rfl), zM_P hMqa559ξ (List.mem_of_getElem? (i := 18) rfl), zM_P hMqa559ξ (List.mem_of_getElem? (i := 20) rfl), hLqa559ξ.1, hSqa559ξ⟩, hLqa559ξ.2.1⟩, (show 0 ≤ ((zq_nx s9ξ) % 13) by omega), (show ((zq_nx s9ξ) % 13) ≤ _ by omega)⟩ (fun al halξ rna559ξ Pa559 Ga559 hexta559ξ hfra559ξ hoka559ξ hcsa559ξ hpsia559ξ => ?_)
      obtain rfl := List.mem_singleton.mp halξ
      have hra559ξ := zp_int (hoka559ξ _ rfl).1
      obtain ⟨hPea559ξ, hta559ξ⟩ := hpsia559ξ
      have hMa559ξ := zM_eff (eff := [(13, 34, 0), (75, 1001, 0), (13, 38, 0), (13, 39, 0), (13, 40, 0), (77, 1001, 0)]) hMqa559ξ hfra559ξ hexta559ξ (zM_fb (by decide +kernel))
      subst hPea559ξ
      obtain ⟨Ma559, hMa559ξ, hMfa559ξ⟩ := hMa559ξ
      have hVa559ξ : ∀ o k, zNs o k → Ma559 o k = (zp_set (zp_set V 0 61 (zq_nx s9ξ)) 0 61 (zq_nx (zq_nx s9ξ))) o k := fun o k hkξ => (zMf_s hMfa559ξ hkξ).trans (hVqa559ξ o k hkξ)
      clear hMfa559ξ hfra559ξ hexta559ξ hoka559ξ hcsa559ξ hVqa559ξ hMqa559ξ hSqa559ξ
      obtain ⟨hta559ξ, hSza559ξ⟩ := hta559ξ
      have hSba559ξ : zSb Ma559 := fun j hjξ => by rw [← zM_G hMa559ξ (List.mem_of_getElem? (i := 18) rfl) (2000 + j)]; exact hSza559ξ j hjξ
      have hta559ξ : rna559ξ = (zd_sn (zp_set (zp_set V 0 61 (zq_nx s9ξ)) 0 61 (zq_nx (zq_nx s9ξ))) Lwξ ((zq_nx s9ξ) % 13)) := Eq.trans hta559ξ (zy_sn_9 hLqa559ξ.2.2.1)
      have hta559ξ := (Eq.symm hta559ξ)
      subst hta559ξ
      have hba559ξ := zd_snb (V := (zp_set (zp_set V 0 61 (zq_nx s9ξ)) 0 61 (zq_nx (zq_nx s9ξ)))) (L := Lwξ) (t := ((zq_nx s9ξ) % 13))
      refine zp_icmp (pc := 54) (tgt := 68) hx hb (zd_X12_drawMorning (54, .if_icmp .ge 14, 3, 0, []) (List.mem_of_getElem? (i := 30) rfl)) rfl (fun (hc560ξ : (zd_sn (zp_set (zp_set V 0 61 (zq_nx s9ξ)) 0 61 (zq_nx (zq_nx s9ξ))) Lwξ ((zq_nx s9ξ) % 13)) ≤ ((zq_nx (zq_nx s9ξ)) % 100)) => ?_) (fun (hc560ξ : ¬ ((zd_sn (zp_set (zp_set V 0 61 (zq_nx s9ξ)) 0 61 (zq_nx (zq_nx s9ξ))) Lwξ ((zq_nx s9ξ) % 13)) ≤ ((zq_nx (zq_nx s9ξ)) % 100))) => ?_)
      · refine zp_load (pc := 68) hx hb (zd_X12_drawMorning (68, .aload_n 0, 1, 0, []) (List.mem_of_getElem? (i := 37) rfl)) rfl (j := 2) rfl ?_
        refine zp_load (pc := 69) hx hb (zd_X12_drawMorning (69, .iload_n 1, 1, 0, []) (List.mem_of_getElem? (i := 38) rfl)) rfl (j := 0) rfl ?_
        refine zp_call (pc := 70) (how := 0) (idx := 499) (mi := 278) (S := []) hx hb hEξ hwξ heffξ hrmξ (zX_wea hWξ A (zp_set (zp_set V 0 61 (zq_nx s9ξ)) 0 61 (zq_nx (zq_nx s9ξ))) Lwξ) rfl (j := 63) rfl rfl (by decide +kernel) (zd_X12_drawMorning (70, .invokevirtual 499, 3, 0, []) (List.mem_of_getElem? (i := 39) rfl)) [(A 0 : Int), ((zq_nx s9ξ) % 13)] rfl ⟨zp_o2 (zM_P hMa559ξ (List.mem_of_getElem? (i := 0) rfl)), zp_o0 (by omega) (by omega) (by omega) (by omega), trivial⟩ (Nat.le_of_ble_eq_true rfl) ⟨⟨Ma559, hMa559ξ, hVa559ξ, hSba559ξ⟩, rfl, hLqa559ξ, (show 0 ≤ ((zq_nx s9ξ) % 13) by omega), (show ((zq_nx s9ξ) % 13) ≤ 12 by omega)⟩ (fun al halξ rnm561ξ Pm561 Gm561 hextm561ξ hfrm561ξ hokm561ξ hcsm561ξ hpsim561ξ => ?_)
        obtain rfl := List.mem_singleton.mp halξ
        have hrm561ξ := zp_int (hokm561ξ _ rfl).1
        obtain ⟨hPem561ξ, ⟨Mm561, hMm561ξ, hVm561ξ, hSbm561ξ⟩, htm561ξ⟩ := hpsim561ξ
        subst hPem561ξ
        clear hextm561ξ hfrm561ξ hcsm561ξ hokm561ξ
        have hVm561ξ : ∀ o k, zNs o k → Mm561 o k = (zf_wea (zp_set (zp_set V 0 61 (zq_nx s9ξ)) 0 61 (zq_nx (zq_nx s9ξ))) Lwξ ((zq_nx s9ξ) % 13)).2 o k := hVm561ξ
        have htm561ξ : rnm561ξ = ((zf_wea (zp_set (zp_set V 0 61 (zq_nx s9ξ)) 0 61 (zq_nx (zq_nx s9ξ))) Lwξ ((zq_nx s9ξ) % 13)).1) := htm561ξ
        have htm561ξ := (Eq.symm htm561ξ)
        subst htm561ξ
        have hwm561ξ : 0 ≤ ((zf_wea (zp_set (zp_set V 0 61 (zq_nx s9ξ)) 0 61 (zq_nx (zq_nx s9ξ))) Lwξ ((zq_nx s9ξ) % 13)).2 3 (2000 + 8)) ∧ ((zf_wea (zp_set (zp_set V 0 61 (zq_nx s9ξ)) 0 61 (zq_nx (zq_nx s9ξ))) Lwξ ((zq_nx s9ξ) % 13)).2 3 (2000 + 8)) ≤ 9999 := by rw [zf_wea_8]; omega
        refine zp_pop (pc := 73) hx hb (zd_X12_drawMorning (73, .pop, 1, 0, []) (List.mem_of_getElem? (i := 40) rfl)) (show (0 : Nat) ≠ 1 by decide) ?_
        refine zp_vret (pc := 74) hx hb hEξ hQξ hU5ξ rfl (by decide) (zd_X12_drawMorning (74, .return_, 1, 0, []) (List.mem_of_getElem? (i := 41) rfl)) (j := 0) rfl ?_
        rw [hpsξ]
        refine ⟨rfl, ?_⟩
        have hffξ : zf_drm V s9ξ Lwξ = (0, (zf_wea (zp_set (zp_set V 0 61 (zq_nx s9ξ)) 0 61 (zq_nx (zq_nx s9ξ))) Lwξ ((zq_nx s9ξ) % 13)).2) := by
          unfold zf_drm
          rw [if_pos hc552ξ, if_neg hc553ξ, if_pos hc560ξ]
        show zMVr A (zf_drm V s9ξ Lwξ).2 u.1 Gm561
        rw [hffξ]
        exact ⟨Mm561, hMm561ξ, hVm561ξ, hSbm561ξ⟩
      · refine zp_load (pc := 57) hx hb (zd_X12_drawMorning (57, .aload_n 0, 1, 0, []) (List.mem_of_getElem? (i := 31) rfl)) rfl (j := 2) rfl ?_
        refine zp_getf (n := (A 3 : Int)) (pc := 58) hx hb hEξ hwξ (zd_X12_drawMorning (58, .getfield 13, 3, 0, []) (List.mem_of_getElem? (i := 32) rfl)) (j := 21) rfl rfl rfl (zM_P hMa559ξ (List.mem_of_getElem? (i := 0) rfl)) ((zM_G hMa559ξ (List.mem_of_getElem? (i := 0) rfl) 3).trans (zM_F hMa559ξ (List.mem_of_getElem? (i := 1) rfl))) ?_
        refine zp_const (pc := 61) hx hb (zd_X12_drawMorning (61, .bipush 9, 2, 0, []) (List.mem_of_getElem? (i := 33) rfl)) rfl rfl ?_
        refine zp_const (pc := 63) hx hb (zd_X12_drawMorning (63, .iconst 1, 1, 0, []) (List.mem_of_getElem? (i := 34) rfl)) rfl rfl ?_
        refine zp_iastR (j := 9) (pc := 64) hx hb hwξ heffξ (zd_X12_drawMorning (64, .iastore, 1, 0, []) (List.mem_of_getElem? (i := 35) rfl)) (zM_P hMa559ξ (List.mem_of_getElem? (i := 2) rfl)) (by omega) (show 9 < 180 by omega) (zr_st (lo := (-2147483648)) (hi := 2147483647) ⟨rfl, rfl, rfl⟩ (by omega) (by omega) (by omega) (by omega)) ⟨1002, rfl, zp_1002 (by omega)⟩ ?_
        refine zp_goto (tgt := 74) (pc := 65) hx hb (zd_X12_drawMorning (65, .goto 9, 3, 0, []) (List.mem_of_getElem? (i := 36) rfl)) rfl ?_
        refine zp_vret (pc := 74) hx hb hEξ hQξ hU5ξ rfl (by decide) (zd_X12_drawMorning (74, .return_, 1, 0, []) (List.mem_of_getElem? (i := 41) rfl)) (j := 0) rfl ?_
        rw [hpsξ]
        refine ⟨rfl, ?_⟩
        have hffξ : zf_drm V s9ξ Lwξ = (0, (zp_set (zp_set (zp_set V 0 61 (zq_nx s9ξ)) 0 61 (zq_nx (zq_nx s9ξ))) 3 (2000 + 9) 1)) := by
          unfold zf_drm
          rw [if_pos hc552ξ, if_neg hc553ξ, if_neg hc560ξ]
        show zMVr A (zf_drm V s9ξ Lwξ).2 u.1 (zp_set Ga559 (A 3) (2000 + 9) 1)
        rw [hffξ]
        exact ⟨(zp_set Ma559 3 (2000 + 9) 1), (zM_setE hMa559ξ (List.mem_of_getElem? (i := 2) rfl)), (zV_set hVa559ξ), (zSb_set (by decide) hSba559ξ)⟩
  · refine zp_load (pc := 19) hx hb (zd_X12_drawMorning (19, .aload_n 0, 1, 0, []) (List.mem_of_getElem? (i := 10) rfl)) rfl (j := 1) rfl ?_
    refine zp_getf (n := (A 3 : Int)) (pc := 20) hx hb hEξ hwξ (zd_X12_drawMorning (20, .getfield 13, 3, 0, []) (List.mem_of_getElem? (i := 11) rfl)) (j := 21) rfl rfl rfl (zM_P hMd550ξ (List.mem_of_getElem? (i := 0) rfl)) ((zM_G hMd550ξ (List.mem_of_getElem? (i := 0) rfl) 3).trans (zM_F hMd550ξ (List.mem_of_getElem? (i := 1) rfl))) ?_
    refine zp_const (pc := 23) hx hb (zd_X12_drawMorning (23, .bipush 6, 2, 0, []) (List.mem_of_getElem? (i := 12) rfl)) rfl rfl ?_
    refine zp_ialdT (j := 6) (v := (V 3 (2000 + 6))) (pc := 25) hx hb hwξ (zd_X12_drawMorning (25, .iaload, 1, 0, []) (List.mem_of_getElem? (i := 13) rfl)) zl_T59 rfl (zl_kd 6) (zM_P hMd550ξ (List.mem_of_getElem? (i := 2) rfl)) (by omega) (show 6 < 5580 by omega) (((zM_G hMd550ξ (List.mem_of_getElem? (i := 2) rfl) (2000 + 6)).trans (hVd550ξ 3 (2000 + 6) (Or.inl (by decide)))).trans (zp_set_ne (Or.inl (by decide)))) (fun _ => ?_)
    have hr563ξ := hLd550ξ.1 6 (by omega)
    refine zp_goto (tgt := 31) (pc := 26) hx hb (zd_X12_drawMorning (26, .goto 5, 3, 0, []) (List.mem_of_getElem? (i := 14) rfl)) rfl ?_
    refine zp_store (L' := [(2, 0, (V 3 (2000 + 6))), (1, 0, ((zq_nx s9ξ) % 13)), (0, 2, (A 0 : Int))]) (pc := 31) hx hb hnLξ (zd_X12_drawMorning (31, .istore_n 2, 1, 0, []) (List.mem_of_getElem? (i := 16) rfl)) rfl rfl rfl ?_
    refine zp_load (pc := 32) hx hb (zd_X12_drawMorning (32, .iload_n 1, 1, 0, []) (List.mem_of_getElem? (i := 17) rfl)) rfl (j := 1) rfl ?_
    refine zp_load (pc := 33) hx hb (zd_X12_drawMorning (33, .iload_n 2, 1, 0, []) (List.mem_of_getElem? (i := 18) rfl)) rfl (j := 0) rfl ?_
    refine zp_icmp (pc := 34) (tgt := 41) hx hb (zd_X12_drawMorning (34, .if_icmp .ge 7, 3, 0, []) (List.mem_of_getElem? (i := 19) rfl)) rfl (fun (hc564ξ : (V 3 (2000 + 6)) ≤ ((zq_nx s9ξ) % 13)) => ?_) (fun (hc564ξ : ¬ ((V 3 (2000 + 6)) ≤ ((zq_nx s9ξ) % 13))) => ?_)
    · refine zp_load (pc := 41) hx hb (zd_X12_drawMorning (41, .iload_n 2, 1, 0, []) (List.mem_of_getElem? (i := 22) rfl)) rfl (j := 0) rfl ?_
      refine zp_store (L' := [(1, 0, (V 3 (2000 + 6))), (2, 0, (V 3 (2000 + 6))), (0, 2, (A 0 : Int))]) (pc := 42) hx hb hnLξ (zd_X12_drawMorning (42, .istore_n 1, 1, 0, []) (List.mem_of_getElem? (i := 23) rfl)) rfl rfl rfl ?_
      refine zp_load (pc := 43) hx hb (zd_X12_drawMorning (43, .aload_n 0, 1, 0, []) (List.mem_of_getElem? (i := 24) rfl)) rfl (j := 2) rfl ?_
      refine zp_const (pc := 44) hx hb (zd_X12_drawMorning (44, .bipush 100, 2, 0, []) (List.mem_of_getElem? (i := 25) rfl)) rfl rfl ?_
      refine zp_call (pc := 46) (how := 0) (idx := 567) (mi := 296) (S := []) hx hb hEξ hwξ heffξ hrmξ (zX_dr100 hWξ A (zp_set V 0 61 (zq_nx s9ξ)) (zq_nx s9ξ)) rfl (j := 75) rfl rfl (by decide +kernel) (zd_X12_drawMorning (46, .invokevirtual 567, 3, 0, []) (List.mem_of_getElem? (i := 26) rfl)) [(A 0 : Int), 100] rfl ⟨zp_o2 (zM_P hMd550ξ (List.mem_of_getElem? (i := 0) rfl)), zp_o0 (by decide) (by decide) (by decide) (by decide), trivial⟩ (Nat.le_of_ble_eq_true rfl) ⟨⟨Md550, hMd550ξ, hVd550ξ, hSbd550ξ⟩, rfl, zp_set_self, by omega, rfl⟩ (fun al halξ rnd565ξ Pd565 Gd565 hextd565ξ hfrd565ξ hokd565ξ hcsd565ξ hpsid565ξ => ?_)
      obtain rfl := List.mem_singleton.mp halξ
      have hrd565ξ := zp_int (hokd565ξ _ rfl).1
      obtain ⟨hPed565ξ, ⟨Md565, hMd565ξ, hVd565ξ, hSbd565ξ⟩, htd565ξ⟩ := hpsid565ξ
      subst hPed565ξ
      clear hextd565ξ hfrd565ξ hcsd565ξ hokd565ξ
      have hVd565ξ : ∀ o k, zNs o k → Md565 o k = (zp_set (zp_set V 0 61 (zq_nx s9ξ)) 0 61 (zq_nx (zq_nx s9ξ))) o k := hVd565ξ
      have hnxd565ξ := zq_nxb (s := (zq_nx s9ξ))
      have htd565ξ : rnd565ξ = ((zq_nx (zq_nx s9ξ)) % 100) := htd565ξ
      have htd565ξ := (Eq.symm htd565ξ)
      subst htd565ξ
      have hLd565ξ : zLV (zp_set (zp_set V 0 61 (zq_nx s9ξ)) 0 61 (zq_nx (zq_nx s9ξ))) Lwξ := zLV_o (by decide) (Or.inr (by decide)) hLd550ξ
      refine zp_load (pc := 49) hx hb (zd_X12_drawMorning (49, .aload_n 0, 1, 0, []) (List.mem_of_getElem? (i := 27) rfl)) rfl (j := 2) rfl ?_
      refine zp_load (pc := 50) hx hb (zd_X12_drawMorning (50, .iload_n 1, 1, 0, []) (List.mem_of_getElem? (i := 28) rfl)) rfl (j := 0) rfl ?_
      have hMqa566ξ : zM A zYr zFr Md565 u.1 Gd565 := hMd565ξ
      have hVqa566ξ : ∀ o k, zNs o k → Md565 o k = (zp_set (zp_set V 0 61 (zq_nx s9ξ)) 0 61 (zq_nx (zq_nx s9ξ))) o k := hVd565ξ
      have hSqa566ξ : zSb Md565 := hSbd565ξ
      have hLqa566ξ : zLV (zp_set (zp_set V 0 61 (zq_nx s9ξ)) 0 61 (zq_nx (zq_nx s9ξ))) Lwξ := hLd565ξ
      have htaa566ξ : 0 ≤ (V 3 (2000 + 6)) ∧ (V 3 (2000 + 6)) ≤ 31 := by omega
      refine zp_call (pc := 51) (how := 0) (idx := 436) (mi := 246) (S := [(0, ((zq_nx (zq_nx s9ξ)) % 100))]) hx hb hEξ hwξ heffξ hrmξ (zX_sno hWξ (A 3) (A 35) (A 37) (fun j => (zp_set (zp_set V 0 61 (zq_nx s9ξ)) 0 61 (zq_nx (zq_nx s9ξ))) 3 (2000 + j)) (fun j => Md565 35 (2000 + j)) Lwξ) rfl (j := 46) rfl rfl (by decide +kernel) (zd_X12_drawMorning (51, .invokevirtual 436, 3, 0, []) (List.mem_of_getElem? (i := 29) rfl)) [(A 0 : Int), (V 3 (2000 + 6))] rfl ⟨zp_o2 (zM_P hMd565ξ (List.mem_of_getElem? (i := 0) rfl)), zp_o0 (by omega) (by omega) (by omega) (by omega), trivial⟩ (Nat.le_of_ble_eq_true rfl) ⟨⟨⟨⟨(zM_G hMqa566ξ (List.mem_of_getElem? (i := 0) rfl) 20).trans ((hVqa566ξ 0 20 (Or.inr (by decide))).trans hLqa566ξ.2.2.2.2), (zM_G hMqa566ξ (List.mem_of_getElem? (i := 0) rfl) 3).trans (zM_F hMqa566ξ (List.mem_of_getElem? (i := 1) rfl)), (zM_G hMqa566ξ (List.mem_of_getElem? (i := 0) rfl) 35).trans (zM_F hMqa566ξ (List.mem_of_getElem? (i := 17) rfl)), (zM_G hMqa566ξ (List.mem_of_getElem? (i := 0) rfl) 37).trans (zM_F hMqa566ξ (List.mem_of_getElem? (i := 19) rfl)), fun j => (zM_G hMqa566ξ (List.mem_of_getElem? (i := 2) rfl) (2000 + j)).trans (hVqa566ξ 3 _ (Or.inl (by decide))), fun j => zM_G hMqa566ξ (List.mem_of_getElem? (i := 18) rfl) (2000 + j)⟩, zM_P hMqa566ξ (List.mem_of_getElem? (i := 2) rfl), zM_P hMqa566ξ (List.mem_of_getElem? (i := 18) rfl), zM_P hMqa566ξ (List.mem_of_getElem? (i := 20) rfl), hLqa566ξ.1, hSqa566ξ⟩, hLqa566ξ.2.1⟩, (show 0 ≤ (V 3 (2000 + 6)) by omega), (show (V 3 (2000 + 6)) ≤ _ by omega)⟩ (fun al halξ rna566ξ Pa566 Ga566 hexta566ξ hfra566ξ hoka566ξ hcsa566ξ hpsia566ξ => ?_)
      obtain rfl := List.mem_singleton.mp halξ
      have hra566ξ := zp_int (hoka566ξ _ rfl).1
      obtain ⟨hPea566ξ, hta566ξ⟩ := hpsia566ξ
      have hMa566ξ := zM_eff (eff := [(13, 34, 0), (75, 1001, 0), (13, 38, 0), (13, 39, 0), (13, 40, 0), (77, 1001, 0)]) hMqa566ξ hfra566ξ hexta566ξ (zM_fb (by decide +kernel))
      subst hPea566ξ
      obtain ⟨Ma566, hMa566ξ, hMfa566ξ⟩ := hMa566ξ
      have hVa566ξ : ∀ o k, zNs o k → Ma566 o k = (zp_set (zp_set V 0 61 (zq_nx s9ξ)) 0 61 (zq_nx (zq_nx s9ξ))) o k := fun o k hkξ => (zMf_s hMfa566ξ hkξ).trans (hVqa566ξ o k hkξ)
      clear hMfa566ξ hfra566ξ hexta566ξ hoka566ξ hcsa566ξ hVqa566ξ hMqa566ξ hSqa566ξ
      obtain ⟨hta566ξ, hSza566ξ⟩ := hta566ξ
      have hSba566ξ : zSb Ma566 := fun j hjξ => by rw [← zM_G hMa566ξ (List.mem_of_getElem? (i := 18) rfl) (2000 + j)]; exact hSza566ξ j hjξ
      have hta566ξ : rna566ξ = (zd_sn (zp_set (zp_set V 0 61 (zq_nx s9ξ)) 0 61 (zq_nx (zq_nx s9ξ))) Lwξ (V 3 (2000 + 6))) := Eq.trans hta566ξ (zy_sn_9 hLqa566ξ.2.2.1)
      have hta566ξ := (Eq.symm hta566ξ)
      subst hta566ξ
      have hba566ξ := zd_snb (V := (zp_set (zp_set V 0 61 (zq_nx s9ξ)) 0 61 (zq_nx (zq_nx s9ξ)))) (L := Lwξ) (t := (V 3 (2000 + 6)))
      refine zp_icmp (pc := 54) (tgt := 68) hx hb (zd_X12_drawMorning (54, .if_icmp .ge 14, 3, 0, []) (List.mem_of_getElem? (i := 30) rfl)) rfl (fun (hc567ξ : (zd_sn (zp_set (zp_set V 0 61 (zq_nx s9ξ)) 0 61 (zq_nx (zq_nx s9ξ))) Lwξ (V 3 (2000 + 6))) ≤ ((zq_nx (zq_nx s9ξ)) % 100)) => ?_) (fun (hc567ξ : ¬ ((zd_sn (zp_set (zp_set V 0 61 (zq_nx s9ξ)) 0 61 (zq_nx (zq_nx s9ξ))) Lwξ (V 3 (2000 + 6))) ≤ ((zq_nx (zq_nx s9ξ)) % 100))) => ?_)
      · refine zp_load (pc := 68) hx hb (zd_X12_drawMorning (68, .aload_n 0, 1, 0, []) (List.mem_of_getElem? (i := 37) rfl)) rfl (j := 2) rfl ?_
        refine zp_load (pc := 69) hx hb (zd_X12_drawMorning (69, .iload_n 1, 1, 0, []) (List.mem_of_getElem? (i := 38) rfl)) rfl (j := 0) rfl ?_
        refine zp_call (pc := 70) (how := 0) (idx := 499) (mi := 278) (S := []) hx hb hEξ hwξ heffξ hrmξ (zX_wea hWξ A (zp_set (zp_set V 0 61 (zq_nx s9ξ)) 0 61 (zq_nx (zq_nx s9ξ))) Lwξ) rfl (j := 63) rfl rfl (by decide +kernel) (zd_X12_drawMorning (70, .invokevirtual 499, 3, 0, []) (List.mem_of_getElem? (i := 39) rfl)) [(A 0 : Int), (V 3 (2000 + 6))] rfl ⟨zp_o2 (zM_P hMa566ξ (List.mem_of_getElem? (i := 0) rfl)), zp_o0 (by omega) (by omega) (by omega) (by omega), trivial⟩ (Nat.le_of_ble_eq_true rfl) ⟨⟨Ma566, hMa566ξ, hVa566ξ, hSba566ξ⟩, rfl, hLqa566ξ, (show 0 ≤ (V 3 (2000 + 6)) by omega), (show (V 3 (2000 + 6)) ≤ 12 by omega)⟩ (fun al halξ rnm568ξ Pm568 Gm568 hextm568ξ hfrm568ξ hokm568ξ hcsm568ξ hpsim568ξ => ?_)
        obtain rfl := List.mem_singleton.mp halξ
        have hrm568ξ := zp_int (hokm568ξ _ rfl).1
        obtain ⟨hPem568ξ, ⟨Mm568, hMm568ξ, hVm568ξ, hSbm568ξ⟩, htm568ξ⟩ := hpsim568ξ
        subst hPem568ξ
        clear hextm568ξ hfrm568ξ hcsm568ξ hokm568ξ
        have hVm568ξ : ∀ o k, zNs o k → Mm568 o k = (zf_wea (zp_set (zp_set V 0 61 (zq_nx s9ξ)) 0 61 (zq_nx (zq_nx s9ξ))) Lwξ (V 3 (2000 + 6))).2 o k := hVm568ξ
        have htm568ξ : rnm568ξ = ((zf_wea (zp_set (zp_set V 0 61 (zq_nx s9ξ)) 0 61 (zq_nx (zq_nx s9ξ))) Lwξ (V 3 (2000 + 6))).1) := htm568ξ
        have htm568ξ := (Eq.symm htm568ξ)
        subst htm568ξ
        have hwm568ξ : 0 ≤ ((zf_wea (zp_set (zp_set V 0 61 (zq_nx s9ξ)) 0 61 (zq_nx (zq_nx s9ξ))) Lwξ (V 3 (2000 + 6))).2 3 (2000 + 8)) ∧ ((zf_wea (zp_set (zp_set V 0 61 (zq_nx s9ξ)) 0 61 (zq_nx (zq_nx s9ξ))) Lwξ (V 3 (2000 + 6))).2 3 (2000 + 8)) ≤ 9999 := by rw [zf_wea_8]; omega
        refine zp_pop (pc := 73) hx hb (zd_X12_drawMorning (73, .pop, 1, 0, []) (List.mem_of_getElem? (i := 40) rfl)) (show (0 : Nat) ≠ 1 by decide) ?_
        refine zp_vret (pc := 74) hx hb hEξ hQξ hU5ξ rfl (by decide) (zd_X12_drawMorning (74, .return_, 1, 0, []) (List.mem_of_getElem? (i := 41) rfl)) (j := 0) rfl ?_
        rw [hpsξ]
        refine ⟨rfl, ?_⟩
        have hffξ : zf_drm V s9ξ Lwξ = (0, (zf_wea (zp_set (zp_set V 0 61 (zq_nx s9ξ)) 0 61 (zq_nx (zq_nx s9ξ))) Lwξ (V 3 (2000 + 6))).2) := by
          unfold zf_drm
          rw [if_neg hc552ξ, if_pos hc564ξ, if_pos hc567ξ]
        show zMVr A (zf_drm V s9ξ Lwξ).2 u.1 Gm568
        rw [hffξ]
        exact ⟨Mm568, hMm568ξ, hVm568ξ, hSbm568ξ⟩
      · refine zp_load (pc := 57) hx hb (zd_X12_drawMorning (57, .aload_n 0, 1, 0, []) (List.mem_of_getElem? (i := 31) rfl)) rfl (j := 2) rfl ?_
        refine zp_getf (n := (A 3 : Int)) (pc := 58) hx hb hEξ hwξ (zd_X12_drawMorning (58, .getfield 13, 3, 0, []) (List.mem_of_getElem? (i := 32) rfl)) (j := 21) rfl rfl rfl (zM_P hMa566ξ (List.mem_of_getElem? (i := 0) rfl)) ((zM_G hMa566ξ (List.mem_of_getElem? (i := 0) rfl) 3).trans (zM_F hMa566ξ (List.mem_of_getElem? (i := 1) rfl))) ?_
        refine zp_const (pc := 61) hx hb (zd_X12_drawMorning (61, .bipush 9, 2, 0, []) (List.mem_of_getElem? (i := 33) rfl)) rfl rfl ?_
        refine zp_const (pc := 63) hx hb (zd_X12_drawMorning (63, .iconst 1, 1, 0, []) (List.mem_of_getElem? (i := 34) rfl)) rfl rfl ?_
        refine zp_iastR (j := 9) (pc := 64) hx hb hwξ heffξ (zd_X12_drawMorning (64, .iastore, 1, 0, []) (List.mem_of_getElem? (i := 35) rfl)) (zM_P hMa566ξ (List.mem_of_getElem? (i := 2) rfl)) (by omega) (show 9 < 180 by omega) (zr_st (lo := (-2147483648)) (hi := 2147483647) ⟨rfl, rfl, rfl⟩ (by omega) (by omega) (by omega) (by omega)) ⟨1002, rfl, zp_1002 (by omega)⟩ ?_
        refine zp_goto (tgt := 74) (pc := 65) hx hb (zd_X12_drawMorning (65, .goto 9, 3, 0, []) (List.mem_of_getElem? (i := 36) rfl)) rfl ?_
        refine zp_vret (pc := 74) hx hb hEξ hQξ hU5ξ rfl (by decide) (zd_X12_drawMorning (74, .return_, 1, 0, []) (List.mem_of_getElem? (i := 41) rfl)) (j := 0) rfl ?_
        rw [hpsξ]
        refine ⟨rfl, ?_⟩
        have hffξ : zf_drm V s9ξ Lwξ = (0, (zp_set (zp_set (zp_set V 0 61 (zq_nx s9ξ)) 0 61 (zq_nx (zq_nx s9ξ))) 3 (2000 + 9) 1)) := by
          unfold zf_drm
          rw [if_neg hc552ξ, if_pos hc564ξ, if_neg hc567ξ]
        show zMVr A (zf_drm V s9ξ Lwξ).2 u.1 (zp_set Ga566 (A 3) (2000 + 9) 1)
        rw [hffξ]
        exact ⟨(zp_set Ma566 3 (2000 + 9) 1), (zM_setE hMa566ξ (List.mem_of_getElem? (i := 2) rfl)), (zV_set hVa566ξ), (zSb_set (by decide) hSba566ξ)⟩
    · refine zp_load (pc := 37) hx hb (zd_X12_drawMorning (37, .iload_n 1, 1, 0, []) (List.mem_of_getElem? (i := 20) rfl)) rfl (j := 1) rfl ?_
      refine zp_goto (tgt := 42) (pc := 38) hx hb (zd_X12_drawMorning (38, .goto 4, 3, 0, []) (List.mem_of_getElem? (i := 21) rfl)) rfl ?_
      refine zp_store (L' := [(1, 0, ((zq_nx s9ξ) % 13)), (2, 0, (V 3 (2000 + 6))), (0, 2, (A 0 : Int))]) (pc := 42) hx hb hnLξ (zd_X12_drawMorning (42, .istore_n 1, 1, 0, []) (List.mem_of_getElem? (i := 23) rfl)) rfl rfl rfl ?_
      refine zp_load (pc := 43) hx hb (zd_X12_drawMorning (43, .aload_n 0, 1, 0, []) (List.mem_of_getElem? (i := 24) rfl)) rfl (j := 2) rfl ?_
      refine zp_const (pc := 44) hx hb (zd_X12_drawMorning (44, .bipush 100, 2, 0, []) (List.mem_of_getElem? (i := 25) rfl)) rfl rfl ?_
      refine zp_call (pc := 46) (how := 0) (idx := 567) (mi := 296) (S := []) hx hb hEξ hwξ heffξ hrmξ (zX_dr100 hWξ A (zp_set V 0 61 (zq_nx s9ξ)) (zq_nx s9ξ)) rfl (j := 75) rfl rfl (by decide +kernel) (zd_X12_drawMorning (46, .invokevirtual 567, 3, 0, []) (List.mem_of_getElem? (i := 26) rfl)) [(A 0 : Int), 100] rfl ⟨zp_o2 (zM_P hMd550ξ (List.mem_of_getElem? (i := 0) rfl)), zp_o0 (by decide) (by decide) (by decide) (by decide), trivial⟩ (Nat.le_of_ble_eq_true rfl) ⟨⟨Md550, hMd550ξ, hVd550ξ, hSbd550ξ⟩, rfl, zp_set_self, by omega, rfl⟩ (fun al halξ rnd569ξ Pd569 Gd569 hextd569ξ hfrd569ξ hokd569ξ hcsd569ξ hpsid569ξ => ?_)
      obtain rfl := List.mem_singleton.mp halξ
      have hrd569ξ := zp_int (hokd569ξ _ rfl).1
      obtain ⟨hPed569ξ, ⟨Md569, hMd569ξ, hVd569ξ, hSbd569ξ⟩, htd569ξ⟩ := hpsid569ξ
      subst hPed569ξ
      clear hextd569ξ hfrd569ξ hcsd569ξ hokd569ξ
      have hVd569ξ : ∀ o k, zNs o k → Md569 o k = (zp_set (zp_set V 0 61 (zq_nx s9ξ)) 0 61 (zq_nx (zq_nx s9ξ))) o k := hVd569ξ
      have hnxd569ξ := zq_nxb (s := (zq_nx s9ξ))
      have htd569ξ : rnd569ξ = ((zq_nx (zq_nx s9ξ)) % 100) := htd569ξ
      have htd569ξ := (Eq.symm htd569ξ)
      subst htd569ξ
      have hLd569ξ : zLV (zp_set (zp_set V 0 61 (zq_nx s9ξ)) 0 61 (zq_nx (zq_nx s9ξ))) Lwξ := zLV_o (by decide) (Or.inr (by decide)) hLd550ξ
      refine zp_load (pc := 49) hx hb (zd_X12_drawMorning (49, .aload_n 0, 1, 0, []) (List.mem_of_getElem? (i := 27) rfl)) rfl (j := 2) rfl ?_
      refine zp_load (pc := 50) hx hb (zd_X12_drawMorning (50, .iload_n 1, 1, 0, []) (List.mem_of_getElem? (i := 28) rfl)) rfl (j := 0) rfl ?_
      have hMqa570ξ : zM A zYr zFr Md569 u.1 Gd569 := hMd569ξ
      have hVqa570ξ : ∀ o k, zNs o k → Md569 o k = (zp_set (zp_set V 0 61 (zq_nx s9ξ)) 0 61 (zq_nx (zq_nx s9ξ))) o k := hVd569ξ
      have hSqa570ξ : zSb Md569 := hSbd569ξ
      have hLqa570ξ : zLV (zp_set (zp_set V 0 61 (zq_nx s9ξ)) 0 61 (zq_nx (zq_nx s9ξ))) Lwξ := hLd569ξ
      have htaa570ξ : 0 ≤ ((zq_nx s9ξ) % 13) ∧ ((zq_nx s9ξ) % 13) ≤ 31 := by omega
      refine zp_call (pc := 51) (how := 0) (idx := 436) (mi := 246) (S := [(0, ((zq_nx (zq_nx s9ξ)) % 100))]) hx hb hEξ hwξ heffξ hrmξ (zX_sno hWξ (A 3) (A 35) (A 37) (fun j => (zp_set (zp_set V 0 61 (zq_nx s9ξ)) 0 61 (zq_nx (zq_nx s9ξ))) 3 (2000 + j)) (fun j => Md569 35 (2000 + j)) Lwξ) rfl (j := 46) rfl rfl (by decide +kernel) (zd_X12_drawMorning (51, .invokevirtual 436, 3, 0, []) (List.mem_of_getElem? (i := 29) rfl)) [(A 0 : Int), ((zq_nx s9ξ) % 13)] rfl ⟨zp_o2 (zM_P hMd569ξ (List.mem_of_getElem? (i := 0) rfl)), zp_o0 (by omega) (by omega) (by omega) (by omega), trivial⟩ (Nat.le_of_ble_eq_true rfl) ⟨⟨⟨⟨(zM_G hMqa570ξ (List.mem_of_getElem? (i := 0) rfl) 20).trans ((hVqa570ξ 0 20 (Or.inr (by decide))).trans hLqa570ξ.2.2.2.2), (zM_G hMqa570ξ (List.mem_of_getElem? (i := 0) rfl) 3).trans (zM_F hMqa570ξ (List.mem_of_getElem? (i := 1) rfl)), (zM_G hMqa570ξ (List.mem_of_getElem? (i := 0) rfl) 35).trans (zM_F hMqa570ξ (List.mem_of_getElem? (i := 17) rfl)), (zM_G hMqa570ξ (List.mem_of_getElem? (i := 0) rfl) 37).trans (zM_F hMqa570ξ (List.mem_of_getElem? (i := 19) rfl)), fun j => (zM_G hMqa570ξ (List.mem_of_getElem? (i := 2) rfl) (2000 + j)).trans (hVqa570ξ 3 _ (Or.inl (by decide))), fun j => zM_G hMqa570ξ (List.mem_of_getElem? (i := 18) rfl) (2000 + j)⟩, zM_P hMqa570ξ (List.mem_of_getElem? (i := 2) rfl), zM_P hMqa570ξ (List.mem_of_getElem? (i := 18) rfl), zM_P hMqa570ξ (List.mem_of_getElem? (i := 20) rfl), hLqa570ξ.1, hSqa570ξ⟩, hLqa570ξ.2.1⟩, (show 0 ≤ ((zq_nx s9ξ) % 13) by omega), (show ((zq_nx s9ξ) % 13) ≤ _ by omega)⟩ (fun al halξ rna570ξ Pa570 Ga570 hexta570ξ hfra570ξ hoka570ξ hcsa570ξ hpsia570ξ => ?_)
      obtain rfl := List.mem_singleton.mp halξ
      have hra570ξ := zp_int (hoka570ξ _ rfl).1
      obtain ⟨hPea570ξ, hta570ξ⟩ := hpsia570ξ
      have hMa570ξ := zM_eff (eff := [(13, 34, 0), (75, 1001, 0), (13, 38, 0), (13, 39, 0), (13, 40, 0), (77, 1001, 0)]) hMqa570ξ hfra570ξ hexta570ξ (zM_fb (by decide +kernel))
      subst hPea570ξ
      obtain ⟨Ma570, hMa570ξ, hMfa570ξ⟩ := hMa570ξ
      have hVa570ξ : ∀ o k, zNs o k → Ma570 o k = (zp_set (zp_set V 0 61 (zq_nx s9ξ)) 0 61 (zq_nx (zq_nx s9ξ))) o k := fun o k hkξ => (zMf_s hMfa570ξ hkξ).trans (hVqa570ξ o k hkξ)
      clear hMfa570ξ hfra570ξ hexta570ξ hoka570ξ hcsa570ξ hVqa570ξ hMqa570ξ hSqa570ξ
      obtain ⟨hta570ξ, hSza570ξ⟩ := hta570ξ
      have hSba570ξ : zSb Ma570 := fun j hjξ => by rw [← zM_G hMa570ξ (List.mem_of_getElem? (i := 18) rfl) (2000 + j)]; exact hSza570ξ j hjξ
      have hta570ξ : rna570ξ = (zd_sn (zp_set (zp_set V 0 61 (zq_nx s9ξ)) 0 61 (zq_nx (zq_nx s9ξ))) Lwξ ((zq_nx s9ξ) % 13)) := Eq.trans hta570ξ (zy_sn_9 hLqa570ξ.2.2.1)
      have hta570ξ := (Eq.symm hta570ξ)
      subst hta570ξ
      have hba570ξ := zd_snb (V := (zp_set (zp_set V 0 61 (zq_nx s9ξ)) 0 61 (zq_nx (zq_nx s9ξ)))) (L := Lwξ) (t := ((zq_nx s9ξ) % 13))
      refine zp_icmp (pc := 54) (tgt := 68) hx hb (zd_X12_drawMorning (54, .if_icmp .ge 14, 3, 0, []) (List.mem_of_getElem? (i := 30) rfl)) rfl (fun (hc571ξ : (zd_sn (zp_set (zp_set V 0 61 (zq_nx s9ξ)) 0 61 (zq_nx (zq_nx s9ξ))) Lwξ ((zq_nx s9ξ) % 13)) ≤ ((zq_nx (zq_nx s9ξ)) % 100)) => ?_) (fun (hc571ξ : ¬ ((zd_sn (zp_set (zp_set V 0 61 (zq_nx s9ξ)) 0 61 (zq_nx (zq_nx s9ξ))) Lwξ ((zq_nx s9ξ) % 13)) ≤ ((zq_nx (zq_nx s9ξ)) % 100))) => ?_)
      · refine zp_load (pc := 68) hx hb (zd_X12_drawMorning (68, .aload_n 0, 1, 0, []) (List.mem_of_getElem? (i := 37) rfl)) rfl (j := 2) rfl ?_
        refine zp_load (pc := 69) hx hb (zd_X12_drawMorning (69, .iload_n 1, 1, 0, []) (List.mem_of_getElem? (i := 38) rfl)) rfl (j := 0) rfl ?_
        refine zp_call (pc := 70) (how := 0) (idx := 499) (mi := 278) (S := []) hx hb hEξ hwξ heffξ hrmξ (zX_wea hWξ A (zp_set (zp_set V 0 61 (zq_nx s9ξ)) 0 61 (zq_nx (zq_nx s9ξ))) Lwξ) rfl (j := 63) rfl rfl (by decide +kernel) (zd_X12_drawMorning (70, .invokevirtual 499, 3, 0, []) (List.mem_of_getElem? (i := 39) rfl)) [(A 0 : Int), ((zq_nx s9ξ) % 13)] rfl ⟨zp_o2 (zM_P hMa570ξ (List.mem_of_getElem? (i := 0) rfl)), zp_o0 (by omega) (by omega) (by omega) (by omega), trivial⟩ (Nat.le_of_ble_eq_true rfl) ⟨⟨Ma570, hMa570ξ, hVa570ξ, hSba570ξ⟩, rfl, hLqa570ξ, (show 0 ≤ ((zq_nx s9ξ) % 13) by omega), (show ((zq_nx s9ξ) % 13) ≤ 12 by omega)⟩ (fun al halξ rnm572ξ Pm572 Gm572 hextm572ξ hfrm572ξ hokm572ξ hcsm572ξ hpsim572ξ => ?_)
        obtain rfl := List.mem_singleton.mp halξ
        have hrm572ξ := zp_int (hokm572ξ _ rfl).1
        obtain ⟨hPem572ξ, ⟨Mm572, hMm572ξ, hVm572ξ, hSbm572ξ⟩, htm572ξ⟩ := hpsim572ξ
        subst hPem572ξ
        clear hextm572ξ hfrm572ξ hcsm572ξ hokm572ξ
        have hVm572ξ : ∀ o k, zNs o k → Mm572 o k = (zf_wea (zp_set (zp_set V 0 61 (zq_nx s9ξ)) 0 61 (zq_nx (zq_nx s9ξ))) Lwξ ((zq_nx s9ξ) % 13)).2 o k := hVm572ξ
        have htm572ξ : rnm572ξ = ((zf_wea (zp_set (zp_set V 0 61 (zq_nx s9ξ)) 0 61 (zq_nx (zq_nx s9ξ))) Lwξ ((zq_nx s9ξ) % 13)).1) := htm572ξ
        have htm572ξ := (Eq.symm htm572ξ)
        subst htm572ξ
        have hwm572ξ : 0 ≤ ((zf_wea (zp_set (zp_set V 0 61 (zq_nx s9ξ)) 0 61 (zq_nx (zq_nx s9ξ))) Lwξ ((zq_nx s9ξ) % 13)).2 3 (2000 + 8)) ∧ ((zf_wea (zp_set (zp_set V 0 61 (zq_nx s9ξ)) 0 61 (zq_nx (zq_nx s9ξ))) Lwξ ((zq_nx s9ξ) % 13)).2 3 (2000 + 8)) ≤ 9999 := by rw [zf_wea_8]; omega
        refine zp_pop (pc := 73) hx hb (zd_X12_drawMorning (73, .pop, 1, 0, []) (List.mem_of_getElem? (i := 40) rfl)) (show (0 : Nat) ≠ 1 by decide) ?_
        refine zp_vret (pc := 74) hx hb hEξ hQξ hU5ξ rfl (by decide) (zd_X12_drawMorning (74, .return_, 1, 0, []) (List.mem_of_getElem? (i := 41) rfl)) (j := 0) rfl ?_
        rw [hpsξ]
        refine ⟨rfl, ?_⟩
        have hffξ : zf_drm V s9ξ Lwξ = (0, (zf_wea (zp_set (zp_set V 0 61 (zq_nx s9ξ)) 0 61 (zq_nx (zq_nx s9ξ))) Lwξ ((zq_nx s9ξ) % 13)).2) := by
          unfold zf_drm
          rw [if_neg hc552ξ, if_neg hc564ξ, if_pos hc571ξ]
        show zMVr A (zf_drm V s9ξ Lwξ).2 u.1 Gm572
        rw [hffξ]
        exact ⟨Mm572, hMm572ξ, hVm572ξ, hSbm572ξ⟩
      · refine zp_load (pc := 57) hx hb (zd_X12_drawMorning (57, .aload_n 0, 1, 0, []) (List.mem_of_getElem? (i := 31) rfl)) rfl (j := 2) rfl ?_
        refine zp_getf (n := (A 3 : Int)) (pc := 58) hx hb hEξ hwξ (zd_X12_drawMorning (58, .getfield 13, 3, 0, []) (List.mem_of_getElem? (i := 32) rfl)) (j := 21) rfl rfl rfl (zM_P hMa570ξ (List.mem_of_getElem? (i := 0) rfl)) ((zM_G hMa570ξ (List.mem_of_getElem? (i := 0) rfl) 3).trans (zM_F hMa570ξ (List.mem_of_getElem? (i := 1) rfl))) ?_
        refine zp_const (pc := 61) hx hb (zd_X12_drawMorning (61, .bipush 9, 2, 0, []) (List.mem_of_getElem? (i := 33) rfl)) rfl rfl ?_
        refine zp_const (pc := 63) hx hb (zd_X12_drawMorning (63, .iconst 1, 1, 0, []) (List.mem_of_getElem? (i := 34) rfl)) rfl rfl ?_
        refine zp_iastR (j := 9) (pc := 64) hx hb hwξ heffξ (zd_X12_drawMorning (64, .iastore, 1, 0, []) (List.mem_of_getElem? (i := 35) rfl)) (zM_P hMa570ξ (List.mem_of_getElem? (i := 2) rfl)) (by omega) (show 9 < 180 by omega) (zr_st (lo := (-2147483648)) (hi := 2147483647) ⟨rfl, rfl, rfl⟩ (by omega) (by omega) (by omega) (by omega)) ⟨1002, rfl, zp_1002 (by omega)⟩ ?_
        refine zp_goto (tgt := 74) (pc := 65) hx hb (zd_X12_drawMorning (65, .goto 9, 3, 0, []) (List.mem_of_getElem? (i := 36) rfl)) rfl ?_
        refine zp_vret (pc := 74) hx hb hEξ hQξ hU5ξ rfl (by decide) (zd_X12_drawMorning (74, .return_, 1, 0, []) (List.mem_of_getElem? (i := 41) rfl)) (j := 0) rfl ?_
        rw [hpsξ]
        refine ⟨rfl, ?_⟩
        have hffξ : zf_drm V s9ξ Lwξ = (0, (zp_set (zp_set (zp_set V 0 61 (zq_nx s9ξ)) 0 61 (zq_nx (zq_nx s9ξ))) 3 (2000 + 9) 1)) := by
          unfold zf_drm
          rw [if_neg hc552ξ, if_neg hc564ξ, if_neg hc571ξ]
        show zMVr A (zf_drm V s9ξ Lwξ).2 u.1 (zp_set Ga570 (A 3) (2000 + 9) 1)
        rw [hffξ]
        exact ⟨(zp_set Ma570 3 (2000 + 9) 1), (zM_setE hMa570ξ (List.mem_of_getElem? (i := 2) rfl)), (zV_set hVa570ξ), (zSb_set (by decide) hSba570ξ)⟩
noncomputable def zf_drw (V : Nat → Nat → Int) (p1ξ : Int) : Int × (Nat → Nat → Int) := if (V 0 63) = (-1) then ((-1), (zp_set V 0 0 0)) else if 0 ≤ p1ξ ∧ p1ξ ≤ (3 + (V 0 63)) then ((V 62 (2000 + p1ξ.toNat)), (zp_set V 0 0 0)) else ((-1), (zp_set V 0 0 0))
noncomputable def zK_drw : zk_K := (zt_mn 297, prog_14_method_118_code, 2, (Option.some Jvm.ClassFile.FieldType.int), 1, 12, [(2, 13, 0, 0), (0, 0, (-2147483648), 2147483647)], [(some (0, 0, (-2147483648), 2147483647), [])], zUE, (3, 180, 0, 0))
noncomputable def zφ_drw (A : Nat → Nat) (V : Nat → Nat → Int) : (Nat → Option Nat) → (Nat → Nat → Int) → List Int → Prop := fun P G ps => zMVr A V P G ∧ ps.getD 0 0 = (A 0 : Int)
noncomputable def zψ_drw (A : Nat → Nat) (V : Nat → Nat → Int) : (Nat → Option Nat) → (Nat → Nat → Int) → List Int → (Nat → Option Nat) → (Nat → Nat → Int) → Int → Prop := fun P G ps P' G' rn => P' = P ∧ zMVr A (zf_drw V (ps.getD 1 0)).2 P' G' ∧ rn = (zf_drw V (ps.getD 1 0)).1
theorem zX_drw {l : Launch} {w : zk_W} (hWξ : zh_W w) (A : Nat → Nat) (V : Nat → Nat → Int) : zk_metX l w zt_dv zt_TB zK_drw (zp_A (zφ_drw A V)) (zp_B (zψ_drw A V)) ∧ zk_cok w zt_TB zK_drw := by
  refine zp_methX (cn := "WoundTownModel") zp_lkall hWξ (pl := 2052) rfl (by decide +kernel) (fun p e R s m args below meth c Q u hx hb hEξ hQξ hU5ξ heffξ hnLξ hokξ hφ => ?_)
  have hwξ := hWξ.1
  obtain ⟨p0ξ, p1ξ, hpsξ, tk0, tk1⟩ := zp_ps2 hokξ
  have hrmξ : zk_Kr (zk_ev (zt_types, zp_lk, zt_dv, [], [], zp_lc, zK_drw)) = zk_Kr zK_drw := rfl
  rw [hpsξ] at hφ ⊢
  have hφ : zMVr A V u.1 (zp_n u.2.1) ∧ p0ξ = (A 0 : Int) := hφ
  obtain ⟨⟨M, hMξ, hVξ, hSbξ⟩, rfl⟩ := hφ
  have hi1ξ := zp_int tk1
  show zp_J p l e R s m args below meth c Q w u [] 0 [(0, 2, (A 0 : Int)), (1, 0, p1ξ)] [] u.1 (zp_n u.2.1)
  refine zp_load (pc := 0) hx hb (zd_X12_drawn (0, .aload_n 0, 1, 0, []) (List.mem_of_getElem? (i := 0) rfl)) rfl (j := 0) rfl ?_
  refine zp_const (pc := 1) hx hb (zd_X12_drawn (1, .iconst 0, 1, 0, []) (List.mem_of_getElem? (i := 1) rfl)) rfl rfl ?_
  refine zp_putf (pc := 2) hx hb hEξ hwξ heffξ (zd_X12_drawn (2, .putfield 161, 3, 0, []) (List.mem_of_getElem? (i := 2) rfl)) (j := 18) rfl rfl rfl (zM_P hMξ (List.mem_of_getElem? (i := 0) rfl)) (zp_o0 (by decide) (by decide) (by decide) (by decide)) ?_
  refine zp_load (pc := 5) hx hb (zd_X12_drawn (5, .aload_n 0, 1, 0, []) (List.mem_of_getElem? (i := 3) rfl)) rfl (j := 0) rfl ?_
  refine zp_getf (n := (V 0 63)) (pc := 6) hx hb hEξ hwξ (zd_X12_drawn (6, .getfield 158, 3, 0, []) (List.mem_of_getElem? (i := 4) rfl)) (j := 81) rfl rfl rfl (zM_P hMξ (List.mem_of_getElem? (i := 0) rfl)) ((zp_set_ne (Or.inr (by decide))).trans (((zM_G hMξ (List.mem_of_getElem? (i := 0) rfl) 63).trans (hVξ 0 63 (Or.inr (by decide)))))) ?_
  refine zp_kn (k := 63) (a := (A 0)) hwξ (show zp_fd 13 63 = some (12, 0, 0, (-1), 10) from rfl) rfl (zM_P hMξ (List.mem_of_getElem? (i := 0) rfl)) (fun hf573ξ => ?_)
  have hf573bξ := zp_int hf573ξ
  rw [((zp_set_ne (Or.inr (by decide))).trans (((zM_G hMξ (List.mem_of_getElem? (i := 0) rfl) 63).trans (hVξ 0 63 (Or.inr (by decide))))))] at hf573bξ
  clear hf573ξ
  refine zp_const (pc := 9) hx hb (zd_X12_drawn (9, .iconst (-1), 1, 0, []) (List.mem_of_getElem? (i := 5) rfl)) rfl rfl ?_
  refine zp_icmp (pc := 10) (tgt := 40) hx hb (zd_X12_drawn (10, .if_icmp .eq 30, 3, 0, []) (List.mem_of_getElem? (i := 6) rfl)) rfl (fun (hc574ξ : (V 0 63) = (-1)) => ?_) (fun (hc574ξ : ¬ ((V 0 63) = (-1))) => ?_)
  · refine zp_const (pc := 40) hx hb (zd_X12_drawn (40, .iconst (-1), 1, 0, []) (List.mem_of_getElem? (i := 22) rfl)) rfl rfl ?_
    refine zp_iret (pc := 41) (n := (-1)) hx hb hEξ hQξ hU5ξ rfl (by decide) (zd_X12_drawn (41, .ireturn, 1, 0, []) (List.mem_of_getElem? (i := 23) rfl)) (j := 0) rfl (zp_o0 (by omega) (by omega) (by omega) (by omega)) ?_
    rw [hpsξ]
    refine ⟨rfl, ?_⟩
    have hffξ : zf_drw V p1ξ = ((-1), (zp_set V 0 0 0)) := by
      unfold zf_drw
      rw [if_pos hc574ξ]
    show zMVr A (zf_drw V p1ξ).2 u.1 (zp_set (zp_n u.2.1) (A 0) 0 0) ∧ (-1) = (zf_drw V p1ξ).1
    rw [hffξ]
    exact ⟨⟨(zp_set M 0 0 0), (zM_set hMξ (List.mem_of_getElem? (i := 0) rfl) (by decide)), (zV_set hVξ), (zSb_set (by decide) hSbξ)⟩, rfl⟩
  · refine zp_load (pc := 13) hx hb (zd_X12_drawn (13, .iload_n 1, 1, 0, []) (List.mem_of_getElem? (i := 7) rfl)) rfl (j := 1) rfl ?_
    refine zp_i2l (pc := 14) hx hb (zd_X12_drawn (14, .i2l, 1, 0, []) (List.mem_of_getElem? (i := 8) rfl)) ?_
    refine zp_const (pc := 15) hx hb (zd_X12_drawn (15, .lconst 0, 1, 0, []) (List.mem_of_getElem? (i := 9) rfl)) rfl rfl ?_
    refine zp_ldc2 (pc := 16) hx hb hEξ (zd_X12_drawn (16, .ldc2_w 205, 3, 0, []) (List.mem_of_getElem? (i := 10) rfl)) (j := 85) rfl ?_
    refine zp_load (pc := 19) hx hb (zd_X12_drawn (19, .aload_n 0, 1, 0, []) (List.mem_of_getElem? (i := 11) rfl)) rfl (j := 0) rfl ?_
    refine zp_getf (n := (V 0 63)) (pc := 20) hx hb hEξ hwξ (zd_X12_drawn (20, .getfield 158, 3, 0, []) (List.mem_of_getElem? (i := 12) rfl)) (j := 81) rfl rfl rfl (zM_P hMξ (List.mem_of_getElem? (i := 0) rfl)) ((zp_set_ne (Or.inr (by decide))).trans (((zM_G hMξ (List.mem_of_getElem? (i := 0) rfl) 63).trans (hVξ 0 63 (Or.inr (by decide)))))) ?_
    refine zp_i2l (pc := 23) hx hb (zd_X12_drawn (23, .i2l, 1, 0, []) (List.mem_of_getElem? (i := 13) rfl)) ?_
    refine zp_laddx (n := (3 + (V 0 63))) (pc := 24) hx hb (zd_X12_drawn (24, .ladd, 1, 0, []) (List.mem_of_getElem? (i := 14) rfl)) (by omega) (zp_r1 (by omega) (by omega)) ?_
    refine zp_call (pc := 25) (how := 1) (idx := 181) (mi := 186) (S := []) hx hb hEξ hwξ heffξ hrmξ (zX_in2 hWξ) rfl (j := 2) rfl rfl (by decide +kernel) (zd_X12_drawn (25, .invokestatic 181, 3, 0, []) (List.mem_of_getElem? (i := 15) rfl)) [p1ξ, 0, (3 + (V 0 63))] rfl ⟨zp_o1 (by first | assumption | exact zp_r1 (by omega) (by omega)), zp_o1 (by first | assumption | exact zp_r1 (by omega) (by omega)), zp_o1 (by first | assumption | exact zp_r1 (by omega) (by omega)), trivial⟩ (Nat.le_of_ble_eq_true rfl) trivial (fun al halξ rnn575ξ Pn575 Gn575 hextn575ξ hfrn575ξ hokn575ξ hcsn575ξ hpsin575ξ => ?_)
    obtain rfl := List.mem_singleton.mp halξ
    have hrn575ξ := zp_int (hokn575ξ _ rfl).1
    obtain ⟨hPen575ξ, hGen575ξ, htn575ξ⟩ := hpsin575ξ
    rw [hPen575ξ, hGen575ξ]
    clear hextn575ξ hfrn575ξ hcsn575ξ hPen575ξ hGen575ξ
    have htn575ξ : rnn575ξ = 1 ↔ 0 ≤ p1ξ ∧ p1ξ ≤ (3 + (V 0 63)) := htn575ξ
    refine zp_if (pc := 28) (tgt := 40) hx hb (zd_X12_drawn (28, .ifCond .eq 12, 3, 0, []) (List.mem_of_getElem? (i := 16) rfl)) rfl (fun (hc576ξ : rnn575ξ = 0) => ?_) (fun (hc576ξ : ¬ (rnn575ξ = 0)) => ?_)
    · have hbf577ξ : ¬ (0 ≤ p1ξ ∧ p1ξ ≤ (3 + (V 0 63))) := fun h9ξ => absurd ((Iff.mpr htn575ξ) h9ξ) (by omega)
      refine zp_const (pc := 40) hx hb (zd_X12_drawn (40, .iconst (-1), 1, 0, []) (List.mem_of_getElem? (i := 22) rfl)) rfl rfl ?_
      refine zp_iret (pc := 41) (n := (-1)) hx hb hEξ hQξ hU5ξ rfl (by decide) (zd_X12_drawn (41, .ireturn, 1, 0, []) (List.mem_of_getElem? (i := 23) rfl)) (j := 0) rfl (zp_o0 (by omega) (by omega) (by omega) (by omega)) ?_
      rw [hpsξ]
      refine ⟨rfl, ?_⟩
      have hffξ : zf_drw V p1ξ = ((-1), (zp_set V 0 0 0)) := by
        unfold zf_drw
        rw [if_neg hc574ξ, if_neg (fun h9ξ => absurd ((Iff.mpr htn575ξ) h9ξ) (by omega))]
      show zMVr A (zf_drw V p1ξ).2 u.1 (zp_set (zp_n u.2.1) (A 0) 0 0) ∧ (-1) = (zf_drw V p1ξ).1
      rw [hffξ]
      exact ⟨⟨(zp_set M 0 0 0), (zM_set hMξ (List.mem_of_getElem? (i := 0) rfl) (by decide)), (zV_set hVξ), (zSb_set (by decide) hSbξ)⟩, rfl⟩
    · have hbt578ξ := (Iff.mp htn575ξ) (by omega)
      refine zp_load (pc := 31) hx hb (zd_X12_drawn (31, .aload_n 0, 1, 0, []) (List.mem_of_getElem? (i := 17) rfl)) rfl (j := 0) rfl ?_
      refine zp_getf (n := (A 62 : Int)) (pc := 32) hx hb hEξ hwξ (zd_X12_drawn (32, .getfield 155, 3, 0, []) (List.mem_of_getElem? (i := 18) rfl)) (j := 80) rfl rfl rfl (zM_P hMξ (List.mem_of_getElem? (i := 0) rfl)) ((zp_set_ne (Or.inr (by decide))).trans (((zM_G hMξ (List.mem_of_getElem? (i := 0) rfl) 62).trans (zM_F hMξ (List.mem_of_getElem? (i := 33) rfl))))) ?_
      refine zp_load (pc := 35) hx hb (zd_X12_drawn (35, .iload_n 1, 1, 0, []) (List.mem_of_getElem? (i := 19) rfl)) rfl (j := 1) rfl ?_
      refine zp_iald (j := p1ξ.toNat) (v := (V 62 (2000 + p1ξ.toNat))) (pc := 36) hx hb hwξ (zd_X12_drawn (36, .iaload, 1, 0, []) (List.mem_of_getElem? (i := 20) rfl)) (show zp_ia 1 91 = some (14, 0, 0, (-2147483648), 2147483647) from rfl) (zM_P hMξ (List.mem_of_getElem? (i := 34) rfl)) (by omega) (by omega) ((zp_set_ne (Or.inl (zM_ne hMξ (List.mem_of_getElem? (i := 34) rfl) (List.mem_of_getElem? (i := 0) rfl) (by decide)))).trans (((zM_G hMξ (List.mem_of_getElem? (i := 34) rfl) (2000 + p1ξ.toNat)).trans (hVξ 62 (2000 + p1ξ.toNat) (Or.inl (by decide)))))) (fun hk579ξ => ?_)
      have hk579bξ := zp_int hk579ξ
      clear hk579ξ
      refine zp_goto (tgt := 41) (pc := 37) hx hb (zd_X12_drawn (37, .goto 4, 3, 0, []) (List.mem_of_getElem? (i := 21) rfl)) rfl ?_
      refine zp_iret (pc := 41) (n := (V 62 (2000 + p1ξ.toNat))) hx hb hEξ hQξ hU5ξ rfl (by decide) (zd_X12_drawn (41, .ireturn, 1, 0, []) (List.mem_of_getElem? (i := 23) rfl)) (j := 0) rfl (zp_o0 (by omega) (by omega) (by omega) (by omega)) ?_
      rw [hpsξ]
      refine ⟨rfl, ?_⟩
      have hffξ : zf_drw V p1ξ = ((V 62 (2000 + p1ξ.toNat)), (zp_set V 0 0 0)) := by
        unfold zf_drw
        rw [if_neg hc574ξ, if_pos ((Iff.mp htn575ξ) (by omega))]
      show zMVr A (zf_drw V p1ξ).2 u.1 (zp_set (zp_n u.2.1) (A 0) 0 0) ∧ (V 62 (2000 + p1ξ.toNat)) = (zf_drw V p1ξ).1
      rw [hffξ]
      exact ⟨⟨(zp_set M 0 0 0), (zM_set hMξ (List.mem_of_getElem? (i := 0) rfl) (by decide)), (zV_set hVξ), (zSb_set (by decide) hSbξ)⟩, rfl⟩