/-! part lt: the class over logical cells: a decade's draws -/
noncomputable def zK_dra13 : zk_K := (zt_mn 173, prog_3_method_4_code, 2, (Option.some Jvm.ClassFile.FieldType.int), 1, 1, [(2, 1, 0, 0), (0, 0, (-2147483648), 2147483647)], [(some (0, 0, (-2147483648), 2147483647), [])], zUC, (1, 60, 0, 0))
noncomputable def zφ_dra13 (A : Nat → Nat) (Y : List (Nat × Nat)) (F : List (Nat × Nat × Nat)) (M : Nat → Nat → Int) : (Nat → Option Nat) → (Nat → Nat → Int) → List Int → Prop := fun P G ps => zM A Y F M P G ∧ ps.getD 0 0 = (A 6 : Int) ∧ zMc Y F ∧ 0 ≤ M 6 1 ∧ M 6 1 ≤ 1000002 ∧ (ps.getD 1 0) = 13
noncomputable def zψ_dra13 (A : Nat → Nat) (Y : List (Nat × Nat)) (F : List (Nat × Nat × Nat)) (M : Nat → Nat → Int) : (Nat → Option Nat) → (Nat → Nat → Int) → List Int → (Nat → Option Nat) → (Nat → Nat → Int) → Int → Prop := fun P G ps P' G' rn => P' = P ∧ ∃ M' : Nat → Nat → Int, zM A Y F M' P' G' ∧ (∀ o k, o ≠ 6 ∨ k ≠ 1 → M' o k = M o k) ∧ M' 6 1 = zq_nx (M 6 1) ∧ rn = zq_nx (M 6 1) % 13
theorem zX_dra13 {l : Launch} {w : zk_W} (hWξ : zh_W w) (A : Nat → Nat) (Y : List (Nat × Nat)) (F : List (Nat × Nat × Nat)) (M : Nat → Nat → Int) : zk_metX l w zt_dv zt_TB zK_dra13 (zp_A (zφ_dra13 A Y F M)) (zp_B (zψ_dra13 A Y F M)) ∧ zk_cok w zt_TB zK_dra13 := by
  refine zp_methX (cn := "WoundTown$Decade") zp_lkallDc hWξ (pl := 1298) rfl (by decide +kernel) (fun p e R s m args below meth c Q u hx hb hEξ hQξ hU5ξ heffξ hnLξ hokξ hφ => ?_)
  have hwξ := hWξ.1
  obtain ⟨p0ξ, p1ξ, hpsξ, tk0, tk1⟩ := zp_ps2 hokξ
  have hrmξ : zk_Kr (zk_ev (zt_types, zp_lkDc, zt_dv, [], [], zp_lcDc, zK_dra13)) = zk_Kr zK_dra13 := rfl
  rw [hpsξ] at hφ ⊢
  have hφ : zM A Y F M u.1 (zp_n u.2.1) ∧ p0ξ = (A 6 : Int) ∧ zMc Y F ∧ 0 ≤ M 6 1 ∧ M 6 1 ≤ 1000002 ∧ p1ξ = 13 := hφ
  obtain ⟨hMξ, rfl, hYFξ, hs0ξ, hs1ξ, rfl⟩ := hφ
  have hYF0ξ := hYFξ
  obtain ⟨hYbξ, hFbξ, hFxξ, -⟩ := hYFξ
  have hi1ξ := zp_int tk1
  show zp_J p l e R s m args below meth c Q w u [] 0 [(0, 2, (A 6 : Int)), (1, 0, 13)] [] u.1 (zp_n u.2.1)
  have hnxξ := zq_nxb (s := M 6 1)
  refine zp_load (pc := 0) hx hb (zd_X1_draw (0, .aload_n 0, 1, 0, []) (List.mem_of_getElem? (i := 0) rfl)) rfl (j := 0) rfl ?_
  refine zp_load (pc := 1) hx hb (zd_X1_draw (1, .aload_n 0, 1, 0, []) (List.mem_of_getElem? (i := 1) rfl)) rfl (j := 0) rfl ?_
  refine zp_getf (n := (M 6 1)) (pc := 2) hx hb hEξ hwξ (zd_X1_draw (2, .getfield 30, 3, 0, []) (List.mem_of_getElem? (i := 2) rfl)) (j := 10) rfl rfl rfl (zM_P hMξ (hYbξ _ (List.mem_of_getElem? (i := 6) rfl))) (zM_G hMξ (hYbξ _ (List.mem_of_getElem? (i := 6) rfl)) 1) ?_
  refine zp_const (pc := 5) hx hb (zd_X1_draw (5, .sipush 1103, 3, 0, []) (List.mem_of_getElem? (i := 3) rfl)) rfl rfl ?_
  refine zp_mul (n := ((M 6 1) * 1103)) (pc := 8) hx hb (zd_X1_draw (8, .imul, 1, 0, []) (List.mem_of_getElem? (i := 4) rfl)) (by omega) (zp_r0 (by omega) (by omega)) ?_
  refine zp_const (pc := 9) hx hb (zd_X1_draw (9, .sipush 12345, 3, 0, []) (List.mem_of_getElem? (i := 5) rfl)) rfl rfl ?_
  refine zp_add (n := (((M 6 1) * 1103) + 12345)) (pc := 12) hx hb (zd_X1_draw (12, .iadd, 1, 0, []) (List.mem_of_getElem? (i := 6) rfl)) (by omega) (zp_r0 (by omega) (by omega)) ?_
  refine zp_ldc (pc := 13) hx hb hEξ (zd_X1_draw (13, .ldc 87, 2, 0, []) (List.mem_of_getElem? (i := 7) rfl)) (j := 13) rfl ?_
  refine zp_iremx (n := ((((M 6 1) * 1103) + 12345) % 1000003)) (pc := 15) hx hb (zd_X1_draw (15, .irem, 1, 0, []) (List.mem_of_getElem? (i := 8) rfl)) (by decide) (Int.tmod_eq_emod_of_nonneg (by omega)) (zp_r0 (by omega) (by omega)) ?_
  refine zp_putf (pc := 16) hx hb hEξ hwξ heffξ (zd_X1_draw (16, .putfield 30, 3, 0, []) (List.mem_of_getElem? (i := 9) rfl)) (j := 10) rfl rfl rfl (zM_P hMξ (hYbξ _ (List.mem_of_getElem? (i := 6) rfl))) (zp_o0 (by omega) (by omega) (by omega) (by omega)) ?_
  refine zp_load (pc := 19) hx hb (zd_X1_draw (19, .iload_n 1, 1, 0, []) (List.mem_of_getElem? (i := 10) rfl)) rfl (j := 1) rfl ?_
  refine zp_if (pc := 20) (tgt := 32) hx hb (zd_X1_draw (20, .ifCond .le 12, 3, 0, []) (List.mem_of_getElem? (i := 11) rfl)) rfl (fun (hc645ξ : (13 : Int) ≤ 0) => ?_) (fun (hc645ξ : ¬ ((13 : Int) ≤ 0)) => ?_)
  · exfalso
    omega
  · refine zp_load (pc := 23) hx hb (zd_X1_draw (23, .aload_n 0, 1, 0, []) (List.mem_of_getElem? (i := 12) rfl)) rfl (j := 0) rfl ?_
    refine zp_getf (n := ((((M 6 1) * 1103) + 12345) % 1000003)) (pc := 24) hx hb hEξ hwξ (zd_X1_draw (24, .getfield 30, 3, 0, []) (List.mem_of_getElem? (i := 13) rfl)) (j := 10) rfl rfl rfl (zM_P hMξ (hYbξ _ (List.mem_of_getElem? (i := 6) rfl))) zp_set_self ?_
    refine zp_load (pc := 27) hx hb (zd_X1_draw (27, .iload_n 1, 1, 0, []) (List.mem_of_getElem? (i := 14) rfl)) rfl (j := 1) rfl ?_
    refine zp_iremx (n := (((((M 6 1) * 1103) + 12345) % 1000003) % 13)) (pc := 28) hx hb (zd_X1_draw (28, .irem, 1, 0, []) (List.mem_of_getElem? (i := 15) rfl)) (by decide) (Int.tmod_eq_emod_of_nonneg (by omega)) (zp_r0 (by omega) (by omega)) ?_
    refine zp_goto (tgt := 33) (pc := 29) hx hb (zd_X1_draw (29, .goto 4, 3, 0, []) (List.mem_of_getElem? (i := 16) rfl)) rfl ?_
    refine zp_iret (pc := 33) (n := (((((M 6 1) * 1103) + 12345) % 1000003) % 13)) hx hb hEξ hQξ hU5ξ rfl (by decide) (zd_X1_draw (33, .ireturn, 1, 0, []) (List.mem_of_getElem? (i := 18) rfl)) (j := 0) rfl (zp_o0 (by omega) (by omega) (by omega) (by omega)) ?_
    rw [hpsξ]
    refine ⟨rfl, (zp_set M 6 1 ((((M 6 1) * 1103) + 12345) % 1000003)), (zM_set hMξ (hYbξ _ (List.mem_of_getElem? (i := 6) rfl)) (zFx hFxξ (o := 6) (k := 1) (by decide) (by decide))), ?_⟩
    exact ⟨fun o k h9ξ => zp_set_ne (by omega), zp_set_self, rfl⟩
noncomputable def zK_dra100 : zk_K := (zt_mn 173, prog_3_method_4_code, 2, (Option.some Jvm.ClassFile.FieldType.int), 1, 1, [(2, 1, 0, 0), (0, 0, (-2147483648), 2147483647)], [(some (0, 0, (-2147483648), 2147483647), [])], zUC, (1, 60, 0, 0))
noncomputable def zφ_dra100 (A : Nat → Nat) (Y : List (Nat × Nat)) (F : List (Nat × Nat × Nat)) (M : Nat → Nat → Int) : (Nat → Option Nat) → (Nat → Nat → Int) → List Int → Prop := fun P G ps => zM A Y F M P G ∧ ps.getD 0 0 = (A 6 : Int) ∧ zMc Y F ∧ 0 ≤ M 6 1 ∧ M 6 1 ≤ 1000002 ∧ (ps.getD 1 0) = 100
noncomputable def zψ_dra100 (A : Nat → Nat) (Y : List (Nat × Nat)) (F : List (Nat × Nat × Nat)) (M : Nat → Nat → Int) : (Nat → Option Nat) → (Nat → Nat → Int) → List Int → (Nat → Option Nat) → (Nat → Nat → Int) → Int → Prop := fun P G ps P' G' rn => P' = P ∧ ∃ M' : Nat → Nat → Int, zM A Y F M' P' G' ∧ (∀ o k, o ≠ 6 ∨ k ≠ 1 → M' o k = M o k) ∧ M' 6 1 = zq_nx (M 6 1) ∧ rn = zq_nx (M 6 1) % 100
theorem zX_dra100 {l : Launch} {w : zk_W} (hWξ : zh_W w) (A : Nat → Nat) (Y : List (Nat × Nat)) (F : List (Nat × Nat × Nat)) (M : Nat → Nat → Int) : zk_metX l w zt_dv zt_TB zK_dra100 (zp_A (zφ_dra100 A Y F M)) (zp_B (zψ_dra100 A Y F M)) ∧ zk_cok w zt_TB zK_dra100 := by
  refine zp_methX (cn := "WoundTown$Decade") zp_lkallDc hWξ (pl := 1298) rfl (by decide +kernel) (fun p e R s m args below meth c Q u hx hb hEξ hQξ hU5ξ heffξ hnLξ hokξ hφ => ?_)
  have hwξ := hWξ.1
  obtain ⟨p0ξ, p1ξ, hpsξ, tk0, tk1⟩ := zp_ps2 hokξ
  have hrmξ : zk_Kr (zk_ev (zt_types, zp_lkDc, zt_dv, [], [], zp_lcDc, zK_dra100)) = zk_Kr zK_dra100 := rfl
  rw [hpsξ] at hφ ⊢
  have hφ : zM A Y F M u.1 (zp_n u.2.1) ∧ p0ξ = (A 6 : Int) ∧ zMc Y F ∧ 0 ≤ M 6 1 ∧ M 6 1 ≤ 1000002 ∧ p1ξ = 100 := hφ
  obtain ⟨hMξ, rfl, hYFξ, hs0ξ, hs1ξ, rfl⟩ := hφ
  have hYF0ξ := hYFξ
  obtain ⟨hYbξ, hFbξ, hFxξ, -⟩ := hYFξ
  have hi1ξ := zp_int tk1
  show zp_J p l e R s m args below meth c Q w u [] 0 [(0, 2, (A 6 : Int)), (1, 0, 100)] [] u.1 (zp_n u.2.1)
  have hnxξ := zq_nxb (s := M 6 1)
  refine zp_load (pc := 0) hx hb (zd_X1_draw (0, .aload_n 0, 1, 0, []) (List.mem_of_getElem? (i := 0) rfl)) rfl (j := 0) rfl ?_
  refine zp_load (pc := 1) hx hb (zd_X1_draw (1, .aload_n 0, 1, 0, []) (List.mem_of_getElem? (i := 1) rfl)) rfl (j := 0) rfl ?_
  refine zp_getf (n := (M 6 1)) (pc := 2) hx hb hEξ hwξ (zd_X1_draw (2, .getfield 30, 3, 0, []) (List.mem_of_getElem? (i := 2) rfl)) (j := 10) rfl rfl rfl (zM_P hMξ (hYbξ _ (List.mem_of_getElem? (i := 6) rfl))) (zM_G hMξ (hYbξ _ (List.mem_of_getElem? (i := 6) rfl)) 1) ?_
  refine zp_const (pc := 5) hx hb (zd_X1_draw (5, .sipush 1103, 3, 0, []) (List.mem_of_getElem? (i := 3) rfl)) rfl rfl ?_
  refine zp_mul (n := ((M 6 1) * 1103)) (pc := 8) hx hb (zd_X1_draw (8, .imul, 1, 0, []) (List.mem_of_getElem? (i := 4) rfl)) (by omega) (zp_r0 (by omega) (by omega)) ?_
  refine zp_const (pc := 9) hx hb (zd_X1_draw (9, .sipush 12345, 3, 0, []) (List.mem_of_getElem? (i := 5) rfl)) rfl rfl ?_
  refine zp_add (n := (((M 6 1) * 1103) + 12345)) (pc := 12) hx hb (zd_X1_draw (12, .iadd, 1, 0, []) (List.mem_of_getElem? (i := 6) rfl)) (by omega) (zp_r0 (by omega) (by omega)) ?_
  refine zp_ldc (pc := 13) hx hb hEξ (zd_X1_draw (13, .ldc 87, 2, 0, []) (List.mem_of_getElem? (i := 7) rfl)) (j := 13) rfl ?_
  refine zp_iremx (n := ((((M 6 1) * 1103) + 12345) % 1000003)) (pc := 15) hx hb (zd_X1_draw (15, .irem, 1, 0, []) (List.mem_of_getElem? (i := 8) rfl)) (by decide) (Int.tmod_eq_emod_of_nonneg (by omega)) (zp_r0 (by omega) (by omega)) ?_
  refine zp_putf (pc := 16) hx hb hEξ hwξ heffξ (zd_X1_draw (16, .putfield 30, 3, 0, []) (List.mem_of_getElem? (i := 9) rfl)) (j := 10) rfl rfl rfl (zM_P hMξ (hYbξ _ (List.mem_of_getElem? (i := 6) rfl))) (zp_o0 (by omega) (by omega) (by omega) (by omega)) ?_
  refine zp_load (pc := 19) hx hb (zd_X1_draw (19, .iload_n 1, 1, 0, []) (List.mem_of_getElem? (i := 10) rfl)) rfl (j := 1) rfl ?_
  refine zp_if (pc := 20) (tgt := 32) hx hb (zd_X1_draw (20, .ifCond .le 12, 3, 0, []) (List.mem_of_getElem? (i := 11) rfl)) rfl (fun (hc646ξ : (100 : Int) ≤ 0) => ?_) (fun (hc646ξ : ¬ ((100 : Int) ≤ 0)) => ?_)
  · exfalso
    omega
  · refine zp_load (pc := 23) hx hb (zd_X1_draw (23, .aload_n 0, 1, 0, []) (List.mem_of_getElem? (i := 12) rfl)) rfl (j := 0) rfl ?_
    refine zp_getf (n := ((((M 6 1) * 1103) + 12345) % 1000003)) (pc := 24) hx hb hEξ hwξ (zd_X1_draw (24, .getfield 30, 3, 0, []) (List.mem_of_getElem? (i := 13) rfl)) (j := 10) rfl rfl rfl (zM_P hMξ (hYbξ _ (List.mem_of_getElem? (i := 6) rfl))) zp_set_self ?_
    refine zp_load (pc := 27) hx hb (zd_X1_draw (27, .iload_n 1, 1, 0, []) (List.mem_of_getElem? (i := 14) rfl)) rfl (j := 1) rfl ?_
    refine zp_iremx (n := (((((M 6 1) * 1103) + 12345) % 1000003) % 100)) (pc := 28) hx hb (zd_X1_draw (28, .irem, 1, 0, []) (List.mem_of_getElem? (i := 15) rfl)) (by decide) (Int.tmod_eq_emod_of_nonneg (by omega)) (zp_r0 (by omega) (by omega)) ?_
    refine zp_goto (tgt := 33) (pc := 29) hx hb (zd_X1_draw (29, .goto 4, 3, 0, []) (List.mem_of_getElem? (i := 16) rfl)) rfl ?_
    refine zp_iret (pc := 33) (n := (((((M 6 1) * 1103) + 12345) % 1000003) % 100)) hx hb hEξ hQξ hU5ξ rfl (by decide) (zd_X1_draw (33, .ireturn, 1, 0, []) (List.mem_of_getElem? (i := 18) rfl)) (j := 0) rfl (zp_o0 (by omega) (by omega) (by omega) (by omega)) ?_
    rw [hpsξ]
    refine ⟨rfl, (zp_set M 6 1 ((((M 6 1) * 1103) + 12345) % 1000003)), (zM_set hMξ (hYbξ _ (List.mem_of_getElem? (i := 6) rfl)) (zFx hFxξ (o := 6) (k := 1) (by decide) (by decide))), ?_⟩
    exact ⟨fun o k h9ξ => zp_set_ne (by omega), zp_set_self, rfl⟩
noncomputable def zf_mot7 (V : Nat → Nat → Int) : Int × (Nat → Nat → Int) := if ¬ ((V 7 6) % 7) = 6 then (12, V) else ((V 1 16), V)
noncomputable def zK_mot7 : zk_K := (zt_mn 87, prog_11_method_11_code, 2, (Option.some Jvm.ClassFile.FieldType.int), 1, 9, [(2, 10, 0, 0), (2, 2, 0, 0)], [(some (0, 0, (-2147483648), 2147483647), [])], zUC, (0, 0, 0, 0))
noncomputable def zφ_mot7 (A : Nat → Nat) (Y : List (Nat × Nat)) (F : List (Nat × Nat × Nat)) (V : Nat → Nat → Int) : (Nat → Option Nat) → (Nat → Nat → Int) → List Int → Prop := fun P G ps => zMVc A Y F V P G ∧ ps.getD 0 0 = (A 1 : Int) ∧ zMc Y F ∧ (ps.getD 1 0) = (A 7 : Int) ∧ 0 ≤ V 7 6 ∧ V 7 6 ≤ 9999
noncomputable def zψ_mot7 (A : Nat → Nat) (Y : List (Nat × Nat)) (F : List (Nat × Nat × Nat)) (V : Nat → Nat → Int) : (Nat → Option Nat) → (Nat → Nat → Int) → List Int → (Nat → Option Nat) → (Nat → Nat → Int) → Int → Prop := fun P G ps P' G' rn => P' = P ∧ zMVc A Y F (zf_mot7 V).2 P' G' ∧ rn = (zf_mot7 V).1
theorem zX_mot7 {l : Launch} {w : zk_W} (hWξ : zh_W w) (A : Nat → Nat) (Y : List (Nat × Nat)) (F : List (Nat × Nat × Nat)) (V : Nat → Nat → Int) : zk_metX l w zt_dv zt_TB zK_mot7 (zp_A (zφ_mot7 A Y F V)) (zp_B (zψ_mot7 A Y F V)) ∧ zk_cok w zt_TB zK_mot7 := by
  refine zp_methX (cn := "WoundTown$Town") zp_lkallN hWξ (pl := 925) rfl (by decide +kernel) (fun p e R s m args below meth c Q u hx hb hEξ hQξ hU5ξ heffξ hnLξ hokξ hφ => ?_)
  have hwξ := hWξ.1
  obtain ⟨p0ξ, p1ξ, hpsξ, tk0, tk1⟩ := zp_ps2 hokξ
  have hrmξ : zk_Kr (zk_ev (zt_types, zp_lkN, zt_dv, [], [], zp_lcN, zK_mot7)) = zk_Kr zK_mot7 := rfl
  rw [hpsξ] at hφ ⊢
  have hφ : zMVc A Y F V u.1 (zp_n u.2.1) ∧ p0ξ = (A 1 : Int) ∧ zMc Y F ∧ p1ξ = (A 7 : Int) ∧ 0 ≤ V 7 6 ∧ V 7 6 ≤ 9999 := hφ
  obtain ⟨⟨M, hMξ, hVξ, hSbξ⟩, rfl, hYFξ, rfl, hdy0ξ, hdy1ξ⟩ := hφ
  have hYF0ξ := hYFξ
  obtain ⟨hYbξ, hFbξ, hFxξ, -⟩ := hYFξ
  show zp_J p l e R s m args below meth c Q w u [] 0 [(0, 2, (A 1 : Int)), (1, 2, (A 7 : Int))] [] u.1 (zp_n u.2.1)
  refine zp_load (pc := 0) hx hb (zd_X9_mostTurns (0, .aload_n 1, 1, 0, []) (List.mem_of_getElem? (i := 0) rfl)) rfl (j := 1) rfl ?_
  refine zp_getf (n := (V 7 6)) (pc := 1) hx hb hEξ hwξ (zd_X9_mostTurns (1, .getfield 103, 3, 0, []) (List.mem_of_getElem? (i := 1) rfl)) (j := 6) rfl rfl rfl (zM_P hMξ (hYbξ _ (List.mem_of_getElem? (i := 7) rfl))) ((zM_G hMξ (hYbξ _ (List.mem_of_getElem? (i := 7) rfl)) 6).trans (hVξ 7 6 (by decide))) ?_
  refine zp_kn (k := 6) (a := (A 7)) hwξ (show zp_fd 2 6 = some (2, 0, 0, (-2147483648), 2147483647) from rfl) rfl (zM_P hMξ (hYbξ _ (List.mem_of_getElem? (i := 7) rfl))) (fun hf647ξ => ?_)
  have hf647bξ := zp_int hf647ξ
  rw [((zM_G hMξ (hYbξ _ (List.mem_of_getElem? (i := 7) rfl)) 6).trans (hVξ 7 6 (by decide)))] at hf647bξ
  clear hf647ξ
  refine zp_const (pc := 4) hx hb (zd_X9_mostTurns (4, .bipush 7, 2, 0, []) (List.mem_of_getElem? (i := 2) rfl)) rfl rfl ?_
  refine zp_iremx (n := ((V 7 6) % 7)) (pc := 6) hx hb (zd_X9_mostTurns (6, .irem, 1, 0, []) (List.mem_of_getElem? (i := 3) rfl)) (by decide) (Int.tmod_eq_emod_of_nonneg (by omega)) (zp_r0 (by omega) (by omega)) ?_
  refine zp_const (pc := 7) hx hb (zd_X9_mostTurns (7, .bipush 6, 2, 0, []) (List.mem_of_getElem? (i := 4) rfl)) rfl rfl ?_
  refine zp_icmp (pc := 9) (tgt := 19) hx hb (zd_X9_mostTurns (9, .if_icmp .ne 10, 3, 0, []) (List.mem_of_getElem? (i := 5) rfl)) rfl (fun (hc648ξ : ¬ ((V 7 6) % 7) = 6) => ?_) (fun (hc648ξ : ¬ (¬ ((V 7 6) % 7) = 6)) => ?_)
  · refine zp_const (pc := 19) hx hb (zd_X9_mostTurns (19, .bipush 12, 2, 0, []) (List.mem_of_getElem? (i := 9) rfl)) rfl rfl ?_
    refine zp_iret (pc := 21) (n := 12) hx hb hEξ hQξ hU5ξ rfl (by decide) (zd_X9_mostTurns (21, .ireturn, 1, 0, []) (List.mem_of_getElem? (i := 10) rfl)) (j := 0) rfl (zp_o0 (by omega) (by omega) (by omega) (by omega)) ?_
    rw [hpsξ]
    refine ⟨rfl, ?_⟩
    have hffξ : zf_mot7 V = (12, V) := by
      unfold zf_mot7
      rw [if_pos hc648ξ]
    show zMVc A Y F (zf_mot7 V).2 u.1 (zp_n u.2.1) ∧ 12 = (zf_mot7 V).1
    rw [hffξ]
    exact ⟨⟨M, hMξ, hVξ, trivial⟩, rfl⟩
  · refine zp_load (pc := 12) hx hb (zd_X9_mostTurns (12, .aload_n 0, 1, 0, []) (List.mem_of_getElem? (i := 6) rfl)) rfl (j := 0) rfl ?_
    refine zp_getf (n := (V 1 16)) (pc := 13) hx hb hEξ hwξ (zd_X9_mostTurns (13, .getfield 52, 3, 0, []) (List.mem_of_getElem? (i := 7) rfl)) (j := 23) rfl rfl rfl (zM_P hMξ (hYbξ _ (List.mem_of_getElem? (i := 1) rfl))) ((zM_G hMξ (hYbξ _ (List.mem_of_getElem? (i := 1) rfl)) 16).trans (hVξ 1 16 (by decide))) ?_
    refine zp_kn (k := 16) (a := (A 1)) hwξ (show zp_fd 10 16 = some (9, 0, 0, (-2147483648), 2147483647) from rfl) rfl (zM_P hMξ (hYbξ _ (List.mem_of_getElem? (i := 1) rfl))) (fun hf649ξ => ?_)
    have hf649bξ := zp_int hf649ξ
    rw [((zM_G hMξ (hYbξ _ (List.mem_of_getElem? (i := 1) rfl)) 16).trans (hVξ 1 16 (by decide)))] at hf649bξ
    clear hf649ξ
    refine zp_goto (tgt := 21) (pc := 16) hx hb (zd_X9_mostTurns (16, .goto 5, 3, 0, []) (List.mem_of_getElem? (i := 8) rfl)) rfl ?_
    refine zp_iret (pc := 21) (n := (V 1 16)) hx hb hEξ hQξ hU5ξ rfl (by decide) (zd_X9_mostTurns (21, .ireturn, 1, 0, []) (List.mem_of_getElem? (i := 10) rfl)) (j := 0) rfl (zp_o0 (by omega) (by omega) (by omega) (by omega)) ?_
    rw [hpsξ]
    refine ⟨rfl, ?_⟩
    have hffξ : zf_mot7 V = ((V 1 16), V) := by
      unfold zf_mot7
      rw [if_neg hc648ξ]
    show zMVc A Y F (zf_mot7 V).2 u.1 (zp_n u.2.1) ∧ (V 1 16) = (zf_mot7 V).1
    rw [hffξ]
    exact ⟨⟨M, hMξ, hVξ, trivial⟩, rfl⟩
theorem zf_mot7_2 {V : Nat → Nat → Int} : (zf_mot7 V).2 = V := by
  unfold zf_mot7
  split <;> rfl
noncomputable def zf_wbd (V : Nat → Nat → Int) (Lwξ : List yK) : Int × (Nat → Nat → Int) := if (zy_sn (zg_ew (zRc (zp_set V 6 1 (zq_nx (V 6 1))) 7 53) zd_S0 (min ((zq_nx (V 6 1)) % 13) (if V 7 6 % 7 = 6 then V 1 16 else 12)) (-1) (-1) (-1)) Lwξ (min ((zq_nx (V 6 1)) % 13) (if V 7 6 % 7 = 6 then V 1 16 else 12))) ≤ ((zq_nx (zq_nx (V 6 1))) % 100) then (0, (zf_wby7 (zp_set (zp_set V 6 1 (zq_nx (V 6 1))) 6 1 (zq_nx ((zp_set V 6 1 (zq_nx (V 6 1))) 6 1))) (min ((zq_nx (V 6 1)) % 13) (if V 7 6 % 7 = 6 then V 1 16 else 12)) (zy_we (zg_ew (zRc (zp_set V 6 1 (zq_nx (V 6 1))) 7 53) zd_S0 (min ((zq_nx (V 6 1)) % 13) (if V 7 6 % 7 = 6 then V 1 16 else 12)) (-1) (-1) (-1)) Lwξ (min ((zq_nx (V 6 1)) % 13) (if V 7 6 % 7 = 6 then V 1 16 else 12)))).2) else (0, (zp_set (zp_set (zp_set V 6 1 (zq_nx (V 6 1))) 6 1 (zq_nx ((zp_set V 6 1 (zq_nx (V 6 1))) 6 1))) 7 4 1))
noncomputable def zK_wbd : zk_K := (zt_mn 172, prog_3_method_3_code, 4, (Option.none : Option Jvm.ClassFile.FieldType), 1, 1, [(2, 1, 0, 0), (2, 10, 0, 0), (2, 6, 0, 0)], [(none, [])], zUC, (5, 300, 0, 0))
noncomputable def zφ_wbd (A : Nat → Nat) (Y : List (Nat × Nat)) (F : List (Nat × Nat × Nat)) (V : Nat → Nat → Int) (Lwξ : List yK) : (Nat → Option Nat) → (Nat → Nat → Int) → List Int → Prop := fun P G ps => zMVc A Y F V P G ∧ ps.getD 0 0 = (A 6 : Int) ∧ zMc Y F ∧ (ps.getD 1 0) = (A 1 : Int) ∧ (ps.getD 2 0) = (A 4 : Int) ∧ (0 ≤ V 7 3 ∧ V 7 3 ≤ 9999) ∧ (0 ≤ V 7 6 ∧ V 7 6 ≤ 9999) ∧ (0 ≤ V 1 16 ∧ V 1 16 ≤ 12) ∧ (0 ≤ V 6 1 ∧ V 6 1 ≤ 1000002) ∧ zLF A Y F V Lwξ
noncomputable def zψ_wbd (A : Nat → Nat) (Y : List (Nat × Nat)) (F : List (Nat × Nat × Nat)) (V : Nat → Nat → Int) (Lwξ : List yK) : (Nat → Option Nat) → (Nat → Nat → Int) → List Int → (Nat → Option Nat) → (Nat → Nat → Int) → Int → Prop := fun P G ps P' G' rn => P' = P ∧ zMVc A Y F (zf_wbd V Lwξ).2 P' G'
theorem zX_wbd {l : Launch} {w : zk_W} (hWξ : zh_W w) (A : Nat → Nat) (Y : List (Nat × Nat)) (F : List (Nat × Nat × Nat)) (V : Nat → Nat → Int) (Lwξ : List yK) : zk_metX l w zt_dv zt_TB zK_wbd (zp_A (zφ_wbd A Y F V Lwξ)) (zp_B (zψ_wbd A Y F V Lwξ)) ∧ zk_cok w zt_TB zK_wbd := by
  refine zp_methX (cn := "WoundTown$Decade") zp_lkallDc hWξ (pl := 1294) rfl (by decide +kernel) (fun p e R s m args below meth c Q u hx hb hEξ hQξ hU5ξ heffξ hnLξ hokξ hφ => ?_)
  have hwξ := hWξ.1
  obtain ⟨p0ξ, p1ξ, p2ξ, hpsξ, tk0, tk1, tk2⟩ := zp_ps3 hokξ
  have hrmξ : zk_Kr (zk_ev (zt_types, zp_lkDc, zt_dv, [], [], zp_lcDc, zK_wbd)) = zk_Kr zK_wbd := rfl
  rw [hpsξ] at hφ ⊢
  have hφ : zMVc A Y F V u.1 (zp_n u.2.1) ∧ p0ξ = (A 6 : Int) ∧ zMc Y F ∧ p1ξ = (A 1 : Int) ∧ p2ξ = (A 4 : Int) ∧ (0 ≤ V 7 3 ∧ V 7 3 ≤ 9999) ∧ (0 ≤ V 7 6 ∧ V 7 6 ≤ 9999) ∧ (0 ≤ V 1 16 ∧ V 1 16 ≤ 12) ∧ (0 ≤ V 6 1 ∧ V 6 1 ≤ 1000002) ∧ zLF A Y F V Lwξ := hφ
  obtain ⟨⟨M, hMξ, hVξ, hSbξ⟩, rfl, hYFξ, rfl, rfl, ⟨hlf0ξ, hlf1ξ⟩, ⟨hdy0ξ, hdy1ξ⟩, ⟨hsu0ξ, hsu1ξ⟩, ⟨hs0ξ, hs1ξ⟩, hlwξ⟩ := hφ
  have hYF0ξ := hYFξ
  obtain ⟨hYbξ, hFbξ, hFxξ, -⟩ := hYFξ
  show zp_J p l e R s m args below meth c Q w u [] 0 [(0, 2, (A 6 : Int)), (1, 2, (A 1 : Int)), (2, 2, (A 4 : Int))] [] u.1 (zp_n u.2.1)
  refine zp_load (pc := 0) hx hb (zd_X1_windByDraws (0, .aload_n 0, 1, 0, []) (List.mem_of_getElem? (i := 0) rfl)) rfl (j := 0) rfl ?_
  refine zp_const (pc := 1) hx hb (zd_X1_windByDraws (1, .bipush 13, 2, 0, []) (List.mem_of_getElem? (i := 1) rfl)) rfl rfl ?_
  refine zp_call (pc := 3) (how := 0) (idx := 56) (mi := 173) (S := []) hx hb hEξ hwξ heffξ hrmξ (zX_dra13 hWξ A Y F M) rfl (j := 3) rfl rfl (by decide +kernel) (zd_X1_windByDraws (3, .invokevirtual 56, 3, 0, []) (List.mem_of_getElem? (i := 2) rfl)) [(A 6 : Int), 13] rfl ⟨zp_o2 (zM_P hMξ (hYbξ _ (List.mem_of_getElem? (i := 6) rfl))), zp_o0 (by omega) (by omega) (by omega) (by omega), trivial⟩ (Nat.le_of_ble_eq_true rfl) ⟨hMξ, rfl, hYF0ξ, (show 0 ≤ M 6 1 by rw [((hVξ 6 1 (by decide)).trans rfl)]; omega), (show M 6 1 ≤ 1000002 by rw [((hVξ 6 1 (by decide)).trans rfl)]; omega), rfl⟩ (fun al halξ rnd650ξ Pd650 Gd650 hextd650ξ hfrd650ξ hokd650ξ hcsd650ξ hpsid650ξ => ?_)
  obtain rfl := List.mem_singleton.mp halξ
  have hrd650ξ := zp_int (hokd650ξ _ rfl).1
  obtain ⟨hPed650ξ, Md650, hMd650ξ, htd650ξ⟩ := hpsid650ξ
  subst hPed650ξ
  obtain ⟨hMsd650ξ, hMnd650ξ, htd650ξ⟩ := htd650ξ
  have hVd650ξ : ∀ o k, zNc o → Md650 o k = (zp_set V 6 1 (zq_nx (V 6 1))) o k := fun o k hkξ => by
    by_cases c9ξ : o = 6 ∧ k = 1
    · rw [c9ξ.1, c9ξ.2]
      exact ((Eq.trans hMnd650ξ) (congrArg zq_nx (hVξ 6 1 (by decide)))).trans zp_set_self.symm
    · rw [hMsd650ξ o k (by omega), zp_set_ne (show o ≠ 6 ∨ k ≠ 1 by omega)]
      exact hVξ o k hkξ
  have hnxd650ξ := zq_nxb (s := (V 6 1))
  have hsed650ξ : (zp_set V 6 1 (zq_nx (V 6 1))) 6 1 = (zq_nx (V 6 1)) := zp_set_self.trans (congrArg zq_nx rfl)
  have htd650ξ : rnd650ξ = ((zq_nx (V 6 1)) % 13) := Eq.trans htd650ξ (congrArg (fun z => zq_nx z % 13) ((hVξ 6 1 (by decide)).trans rfl))
  have htd650ξ := (Eq.symm htd650ξ)
  subst htd650ξ
  refine zp_load (pc := 6) hx hb (zd_X1_windByDraws (6, .aload_n 1, 1, 0, []) (List.mem_of_getElem? (i := 3) rfl)) rfl (j := 1) rfl ?_
  refine zp_load (pc := 7) hx hb (zd_X1_windByDraws (7, .aload_n 0, 1, 0, []) (List.mem_of_getElem? (i := 4) rfl)) rfl (j := 0) rfl ?_
  refine zp_getf (n := (A 7 : Int)) (pc := 8) hx hb hEξ hwξ (zd_X1_windByDraws (8, .getfield 12, 3, 0, []) (List.mem_of_getElem? (i := 5) rfl)) (j := 9) rfl rfl rfl (zM_P hMd650ξ (hYbξ _ (List.mem_of_getElem? (i := 6) rfl))) ((zM_G hMd650ξ (hYbξ _ (List.mem_of_getElem? (i := 6) rfl)) 0).trans (zM_F hMd650ξ (hFbξ _ (List.mem_of_getElem? (i := 47) rfl)))) ?_
  refine zp_call (pc := 11) (how := 0) (idx := 60) (mi := 87) (S := [(0, ((zq_nx (V 6 1)) % 13))]) hx hb hEξ hwξ heffξ hrmξ (zX_mot7 hWξ A Y F (zp_set V 6 1 (zq_nx (V 6 1)))) rfl (j := 4) rfl rfl (by decide +kernel) (zd_X1_windByDraws (11, .invokevirtual 60, 3, 0, []) (List.mem_of_getElem? (i := 6) rfl)) [(A 1 : Int), (A 7 : Int)] rfl ⟨zp_o2 (zM_P hMd650ξ (hYbξ _ (List.mem_of_getElem? (i := 1) rfl))), zp_o2 (zM_P hMd650ξ (hYbξ _ (List.mem_of_getElem? (i := 7) rfl))), trivial⟩ (Nat.le_of_ble_eq_true rfl) ⟨⟨Md650, hMd650ξ, hVd650ξ, trivial⟩, rfl, hYF0ξ, rfl, (show 0 ≤ (zp_set V 6 1 (zq_nx (V 6 1))) 7 6 by rw [(Eq.trans rfl (zp_set_ne (Or.inl (by decide))))]; omega), (show (zp_set V 6 1 (zq_nx (V 6 1))) 7 6 ≤ 9999 by rw [(Eq.trans rfl (zp_set_ne (Or.inl (by decide))))]; omega)⟩ (fun al halξ rnm651ξ Pm651 Gm651 hextm651ξ hfrm651ξ hokm651ξ hcsm651ξ hpsim651ξ => ?_)
  obtain rfl := List.mem_singleton.mp halξ
  have hrm651ξ := zp_int (hokm651ξ _ rfl).1
  obtain ⟨hPem651ξ, ⟨Mm651, hMm651ξ, hVm651ξ, hSbm651ξ⟩, htm651ξ⟩ := hpsim651ξ
  subst hPem651ξ
  clear hextm651ξ hfrm651ξ hcsm651ξ hokm651ξ
  have hVm651ξ : ∀ o k, zNc o → Mm651 o k = (zf_mot7 (zp_set V 6 1 (zq_nx (V 6 1)))).2 o k := hVm651ξ
  rw [zf_mot7_2] at hVm651ξ
  have hvm651ξ : (zf_mot7 (zp_set V 6 1 (zq_nx (V 6 1)))).1 = if V 7 6 % 7 = 6 then V 1 16 else 12 := by
    unfold zf_mot7
    rw [show (zp_set V 6 1 (zq_nx (V 6 1))) 7 6 = V 7 6 from (Eq.trans rfl (zp_set_ne (Or.inl (by decide)))), show (zp_set V 6 1 (zq_nx (V 6 1))) 1 16 = V 1 16 from (zp_set_ne (Or.inl (by decide)))]
    by_cases c9ξ : V 7 6 % 7 = 6
    · rw [if_neg (fun z => z c9ξ), if_pos c9ξ]
    · rw [if_pos c9ξ, if_neg c9ξ]
  have htm651ξ : rnm651ξ = (if V 7 6 % 7 = 6 then V 1 16 else 12) := (Eq.trans htm651ξ) hvm651ξ
  have htm651ξ := (Eq.symm htm651ξ)
  subst htm651ξ
  have hbm651ξ : 0 ≤ (if V 7 6 % 7 = 6 then V 1 16 else 12) ∧ (if V 7 6 % 7 = 6 then V 1 16 else 12) ≤ 12 := by
    split <;> omega
  refine zp_mm (n := (min ((zq_nx (V 6 1)) % 13) (if V 7 6 % 7 = 6 then V 1 16 else 12))) (S := []) (pc := 14) hx hb hEξ hrmξ (zd_X1_windByDraws (14, .invokestatic 64, 3, 0, []) (List.mem_of_getElem? (i := 7) rfl)) (j := 14) rfl (Or.inr ⟨rfl, by omega⟩) ⟨by decide, Nat.le_of_ble_eq_true rfl⟩ ?_
  refine zp_store (L' := [(3, 0, (min ((zq_nx (V 6 1)) % 13) (if V 7 6 % 7 = 6 then V 1 16 else 12))), (0, 2, (A 6 : Int)), (1, 2, (A 1 : Int)), (2, 2, (A 4 : Int))]) (pc := 17) hx hb hnLξ (zd_X1_windByDraws (17, .istore_n 3, 1, 0, []) (List.mem_of_getElem? (i := 8) rfl)) rfl rfl rfl ?_
  refine zp_load (pc := 18) hx hb (zd_X1_windByDraws (18, .aload_n 2, 1, 0, []) (List.mem_of_getElem? (i := 9) rfl)) rfl (j := 3) rfl ?_
  refine zp_load (pc := 19) hx hb (zd_X1_windByDraws (19, .aload_n 1, 1, 0, []) (List.mem_of_getElem? (i := 10) rfl)) rfl (j := 2) rfl ?_
  refine zp_load (pc := 20) hx hb (zd_X1_windByDraws (20, .aload_n 0, 1, 0, []) (List.mem_of_getElem? (i := 11) rfl)) rfl (j := 1) rfl ?_
  refine zp_getf (n := (A 7 : Int)) (pc := 21) hx hb hEξ hwξ (zd_X1_windByDraws (21, .getfield 12, 3, 0, []) (List.mem_of_getElem? (i := 12) rfl)) (j := 9) rfl rfl rfl (zM_P hMm651ξ (hYbξ _ (List.mem_of_getElem? (i := 6) rfl))) ((zM_G hMm651ξ (hYbξ _ (List.mem_of_getElem? (i := 6) rfl)) 0).trans (zM_F hMm651ξ (hFbξ _ (List.mem_of_getElem? (i := 47) rfl)))) ?_
  refine zp_load (pc := 24) hx hb (zd_X1_windByDraws (24, .iload_n 3, 1, 0, []) (List.mem_of_getElem? (i := 13) rfl)) rfl (j := 0) rfl ?_
  refine zp_call (pc := 25) (how := 0) (idx := 70) (mi := 90) (S := []) hx hb hEξ hwξ heffξ hrmξ (zX_abt7 hWξ A Y F (zp_set V 6 1 (zq_nx (V 6 1))) Lwξ) rfl (j := 5) rfl rfl (by decide +kernel) (zd_X1_windByDraws (25, .invokevirtual 70, 3, 0, []) (List.mem_of_getElem? (i := 14) rfl)) [(A 4 : Int), (A 1 : Int), (A 7 : Int), (min ((zq_nx (V 6 1)) % 13) (if V 7 6 % 7 = 6 then V 1 16 else 12))] rfl ⟨zp_o2 (zM_P hMm651ξ (hYbξ _ (List.mem_of_getElem? (i := 4) rfl))), zp_o2 (zM_P hMm651ξ (hYbξ _ (List.mem_of_getElem? (i := 1) rfl))), zp_o2 (zM_P hMm651ξ (hYbξ _ (List.mem_of_getElem? (i := 7) rfl))), zp_o0 (by omega) (by omega) (by omega) (by omega), trivial⟩ (Nat.le_of_ble_eq_true rfl) ⟨⟨Mm651, hMm651ξ, hVm651ξ, trivial⟩, rfl, hYF0ξ, rfl, rfl, (zLF_f hlwξ (fun o k h8ξ => (zp_set_ne (Or.inl (by omega)))))⟩ (fun al halξ rnab652ξ Pab652 Gab652 hextab652ξ hfrab652ξ hokab652ξ hcsab652ξ hpsiab652ξ => ?_)
  obtain rfl := List.mem_singleton.mp halξ
  obtain ⟨hPeab652ξ, Mab652, hMab652ξ, hVab652ξ, hAbab652ξ⟩ := hpsiab652ξ
  have hAbab652ξ : zAb A Y F (zp_set V 6 1 (zq_nx (V 6 1))) Lwξ (zRc (zp_set V 6 1 (zq_nx (V 6 1))) 7 53) (min ((zq_nx (V 6 1)) % 13) (if V 7 6 % 7 = 6 then V 1 16 else 12)) Mab652 := hAbab652ξ
  subst hPeab652ξ
  clear hextab652ξ hfrab652ξ hokab652ξ hcsab652ξ
  refine zp_load (pc := 28) hx hb (zd_X1_windByDraws (28, .aload_n 0, 1, 0, []) (List.mem_of_getElem? (i := 15) rfl)) rfl (j := 1) rfl ?_
  refine zp_const (pc := 29) hx hb (zd_X1_windByDraws (29, .bipush 100, 2, 0, []) (List.mem_of_getElem? (i := 16) rfl)) rfl rfl ?_
  refine zp_call (pc := 31) (how := 0) (idx := 56) (mi := 173) (S := []) hx hb hEξ hwξ heffξ hrmξ (zX_dra100 hWξ A Y F Mab652) rfl (j := 3) rfl rfl (by decide +kernel) (zd_X1_windByDraws (31, .invokevirtual 56, 3, 0, []) (List.mem_of_getElem? (i := 17) rfl)) [(A 6 : Int), 100] rfl ⟨zp_o2 (zM_P hMab652ξ (hYbξ _ (List.mem_of_getElem? (i := 6) rfl))), zp_o0 (by omega) (by omega) (by omega) (by omega), trivial⟩ (Nat.le_of_ble_eq_true rfl) ⟨hMab652ξ, rfl, hYF0ξ, (show 0 ≤ Mab652 6 1 by rw [((hVab652ξ 6 1 (by decide)).trans (Eq.trans rfl (Eq.trans rfl hsed650ξ)))]; omega), (show Mab652 6 1 ≤ 1000002 by rw [((hVab652ξ 6 1 (by decide)).trans (Eq.trans rfl (Eq.trans rfl hsed650ξ)))]; omega), rfl⟩ (fun al halξ rnd653ξ Pd653 Gd653 hextd653ξ hfrd653ξ hokd653ξ hcsd653ξ hpsid653ξ => ?_)
  obtain rfl := List.mem_singleton.mp halξ
  have hrd653ξ := zp_int (hokd653ξ _ rfl).1
  obtain ⟨hPed653ξ, Md653, hMd653ξ, htd653ξ⟩ := hpsid653ξ
  subst hPed653ξ
  obtain ⟨hMsd653ξ, hMnd653ξ, htd653ξ⟩ := htd653ξ
  have hVd653ξ : ∀ o k, zNc o → Md653 o k = (zp_set (zp_set V 6 1 (zq_nx (V 6 1))) 6 1 (zq_nx ((zp_set V 6 1 (zq_nx (V 6 1))) 6 1))) o k := fun o k hkξ => by
    by_cases c9ξ : o = 6 ∧ k = 1
    · rw [c9ξ.1, c9ξ.2]
      exact ((Eq.trans hMnd653ξ) (congrArg zq_nx (hVab652ξ 6 1 (by decide)))).trans zp_set_self.symm
    · rw [hMsd653ξ o k (by omega), zp_set_ne (show o ≠ 6 ∨ k ≠ 1 by omega)]
      exact hVab652ξ o k hkξ
  have hnxd653ξ := zq_nxb (s := (zq_nx (V 6 1)))
  have hsed653ξ : (zp_set (zp_set V 6 1 (zq_nx (V 6 1))) 6 1 (zq_nx ((zp_set V 6 1 (zq_nx (V 6 1))) 6 1))) 6 1 = (zq_nx (zq_nx (V 6 1))) := zp_set_self.trans (congrArg zq_nx (Eq.trans rfl (Eq.trans rfl hsed650ξ)))
  have htd653ξ : rnd653ξ = ((zq_nx (zq_nx (V 6 1))) % 100) := Eq.trans htd653ξ (congrArg (fun z => zq_nx z % 100) ((hVab652ξ 6 1 (by decide)).trans (Eq.trans rfl (Eq.trans rfl hsed650ξ))))
  have htd653ξ := (Eq.symm htd653ξ)
  subst htd653ξ
  have hAbd653ξ := zAb_f (V' := (zp_set (zp_set V 6 1 (zq_nx (V 6 1))) 6 1 (zq_nx ((zp_set V 6 1 (zq_nx (V 6 1))) 6 1)))) (R' := (zRc (zp_set V 6 1 (zq_nx (V 6 1))) 7 53)) (M' := Md653) hAbab652ξ (fun o k h9ξ => hMsd653ξ o k (by omega)) (fun o k h9ξ => zp_set_ne (Or.inl (by omega))) ⟨rfl, rfl, rfl⟩
  refine zp_load (pc := 34) hx hb (zd_X1_windByDraws (34, .aload_n 2, 1, 0, []) (List.mem_of_getElem? (i := 18) rfl)) rfl (j := 3) rfl ?_
  have hlr654ξ := zg_lawM hMd653ξ hYF0ξ hVd653ξ hAbd653ξ (pw := (-1)) (hrξ := (-1)) (p := (-1)) (o := (-1)) (l := (-1)) (by omega) (by omega) (by omega) (by omega) (by omega) (by rfl) (by rfl)
  have habr654ξ := (hAbd653ξ).1.1
  refine zp_call (pc := 35) (how := 0) (idx := 76) (mi := 119) (S := [(0, ((zq_nx (zq_nx (V 6 1))) % 100))]) hx hb hEξ hwξ heffξ hrmξ (zX_sn_ hWξ (A 66) (fun j => Md653 66 (2000 + j)) (zg_ew (zRc (zp_set V 6 1 (zq_nx (V 6 1))) 7 53) zd_S0 (min ((zq_nx (V 6 1)) % 13) (if V 7 6 % 7 = 6 then V 1 16 else 12)) (-1) (-1) (-1)) Lwξ) rfl (j := 6) rfl rfl (by decide +kernel) (zd_X1_windByDraws (35, .invokevirtual 76, 3, 0, []) (List.mem_of_getElem? (i := 19) rfl)) [(A 4 : Int)] rfl ⟨zp_o2 (zM_P hMd653ξ (hYbξ _ (List.mem_of_getElem? (i := 4) rfl))), trivial⟩ (Nat.le_of_ble_eq_true rfl) ⟨hlr654ξ, (show 0 ≤ Md653 66 (2000 + 0) by omega), (show Md653 66 (2000 + 0) ≤ 1000 by omega)⟩ (fun al halξ rnr654ξ Pr654 Gr654 hextr654ξ hfrr654ξ hokr654ξ hcsr654ξ hpsir654ξ => ?_)
  obtain rfl := List.mem_singleton.mp halξ
  have hrr654ξ := zp_int (hokr654ξ _ rfl).1
  obtain ⟨hPer654ξ, hWnr654ξ, htr654ξ⟩ := hpsir654ξ
  obtain ⟨Mr654, hMr654ξ, hMkr654ξ, hM6r654ξ⟩ := zM_rul hMd653ξ hYF0ξ hfrr654ξ hextr654ξ
  subst hPer654ξ
  have hVr654ξ : ∀ o k, zNc o → Mr654 o k = (zp_set (zp_set V 6 1 (zq_nx (V 6 1))) 6 1 (zq_nx ((zp_set V 6 1 (zq_nx (V 6 1))) 6 1))) o k := fun o k hkξ => (hMkr654ξ o k (fun e => hkξ (by rw [e]; decide)) (fun e => hkξ (by rw [e]; decide))).trans (hVd653ξ o k hkξ)
  have hAbr654ξ := zAb_n (hAbd653ξ) (fun j => (hM6r654ξ (2000 + j)).trans (hWnr654ξ j)) hlr654ξ.1.2.2.2.2.1 (hMkr654ξ 4 2 (by decide) (by decide))
  clear hextr654ξ hfrr654ξ hokr654ξ hcsr654ξ hlr654ξ
  have htr654ξ : rnr654ξ = (zy_sn (zg_ew (zRc (zp_set V 6 1 (zq_nx (V 6 1))) 7 53) zd_S0 (min ((zq_nx (V 6 1)) % 13) (if V 7 6 % 7 = 6 then V 1 16 else 12)) (-1) (-1) (-1)) Lwξ (min ((zq_nx (V 6 1)) % 13) (if V 7 6 % 7 = 6 then V 1 16 else 12))) := by
    have h9ξ : rnr654ξ = zy_sn (zg_ew (zRc (zp_set V 6 1 (zq_nx (V 6 1))) 7 53) zd_S0 (min ((zq_nx (V 6 1)) % 13) (if V 7 6 % 7 = 6 then V 1 16 else 12)) (-1) (-1) (-1)) Lwξ (Md653 66 (2000 + 0)) := htr654ξ
    rw [habr654ξ] at h9ξ
    exact h9ξ
  have hbr654ξ : 0 ≤ (zy_sn (zg_ew (zRc (zp_set V 6 1 (zq_nx (V 6 1))) 7 53) zd_S0 (min ((zq_nx (V 6 1)) % 13) (if V 7 6 % 7 = 6 then V 1 16 else 12)) (-1) (-1) (-1)) Lwξ (min ((zq_nx (V 6 1)) % 13) (if V 7 6 % 7 = 6 then V 1 16 else 12))) ∧ (zy_sn (zg_ew (zRc (zp_set V 6 1 (zq_nx (V 6 1))) 7 53) zd_S0 (min ((zq_nx (V 6 1)) % 13) (if V 7 6 % 7 = 6 then V 1 16 else 12)) (-1) (-1) (-1)) Lwξ (min ((zq_nx (V 6 1)) % 13) (if V 7 6 % 7 = 6 then V 1 16 else 12))) ≤ 100 := zy_snb (by omega) (by omega)
  have htr654ξ := (Eq.symm htr654ξ)
  subst htr654ξ
  refine zp_icmp (pc := 38) (tgt := 52) hx hb (zd_X1_windByDraws (38, .if_icmp .ge 14, 3, 0, []) (List.mem_of_getElem? (i := 20) rfl)) rfl (fun (hc655ξ : (zy_sn (zg_ew (zRc (zp_set V 6 1 (zq_nx (V 6 1))) 7 53) zd_S0 (min ((zq_nx (V 6 1)) % 13) (if V 7 6 % 7 = 6 then V 1 16 else 12)) (-1) (-1) (-1)) Lwξ (min ((zq_nx (V 6 1)) % 13) (if V 7 6 % 7 = 6 then V 1 16 else 12))) ≤ ((zq_nx (zq_nx (V 6 1))) % 100)) => ?_) (fun (hc655ξ : ¬ ((zy_sn (zg_ew (zRc (zp_set V 6 1 (zq_nx (V 6 1))) 7 53) zd_S0 (min ((zq_nx (V 6 1)) % 13) (if V 7 6 % 7 = 6 then V 1 16 else 12)) (-1) (-1) (-1)) Lwξ (min ((zq_nx (V 6 1)) % 13) (if V 7 6 % 7 = 6 then V 1 16 else 12))) ≤ ((zq_nx (zq_nx (V 6 1))) % 100))) => ?_)
  · refine zp_load (pc := 52) hx hb (zd_X1_windByDraws (52, .aload_n 0, 1, 0, []) (List.mem_of_getElem? (i := 26) rfl)) rfl (j := 1) rfl ?_
    refine zp_getf (n := (A 7 : Int)) (pc := 53) hx hb hEξ hwξ (zd_X1_windByDraws (53, .getfield 12, 3, 0, []) (List.mem_of_getElem? (i := 27) rfl)) (j := 9) rfl rfl rfl (zM_P hMr654ξ (hYbξ _ (List.mem_of_getElem? (i := 6) rfl))) ((zM_G hMr654ξ (hYbξ _ (List.mem_of_getElem? (i := 6) rfl)) 0).trans (zM_F hMr654ξ (hFbξ _ (List.mem_of_getElem? (i := 47) rfl)))) ?_
    refine zp_load (pc := 56) hx hb (zd_X1_windByDraws (56, .iload_n 3, 1, 0, []) (List.mem_of_getElem? (i := 28) rfl)) rfl (j := 0) rfl ?_
    refine zp_load (pc := 57) hx hb (zd_X1_windByDraws (57, .aload_n 2, 1, 0, []) (List.mem_of_getElem? (i := 29) rfl)) rfl (j := 3) rfl ?_
    have hlr656ξ := zg_lawM hMr654ξ hYF0ξ hVr654ξ hAbr654ξ (pw := (-1)) (hrξ := (-1)) (p := (-1)) (o := (-1)) (l := (-1)) (by omega) (by omega) (by omega) (by omega) (by omega) (by rfl) (by rfl)
    have habr656ξ := (hAbr654ξ).1.1
    refine zp_call (pc := 58) (how := 0) (idx := 80) (mi := 92) (S := [(0, (min ((zq_nx (V 6 1)) % 13) (if V 7 6 % 7 = 6 then V 1 16 else 12))), (2, (A 7 : Int))]) hx hb hEξ hwξ heffξ hrmξ (zX_we_ hWξ (A 66) (fun j => Mr654 66 (2000 + j)) (zg_ew (zRc (zp_set V 6 1 (zq_nx (V 6 1))) 7 53) zd_S0 (min ((zq_nx (V 6 1)) % 13) (if V 7 6 % 7 = 6 then V 1 16 else 12)) (-1) (-1) (-1)) Lwξ) rfl (j := 7) rfl rfl (by decide +kernel) (zd_X1_windByDraws (58, .invokevirtual 80, 3, 0, []) (List.mem_of_getElem? (i := 30) rfl)) [(A 4 : Int)] rfl ⟨zp_o2 (zM_P hMr654ξ (hYbξ _ (List.mem_of_getElem? (i := 4) rfl))), trivial⟩ (Nat.le_of_ble_eq_true rfl) ⟨hlr656ξ, (show 0 ≤ Mr654 66 (2000 + 0) by omega), (show Mr654 66 (2000 + 0) ≤ 1000 by omega)⟩ (fun al halξ rnr656ξ Pr656 Gr656 hextr656ξ hfrr656ξ hokr656ξ hcsr656ξ hpsir656ξ => ?_)
    obtain rfl := List.mem_singleton.mp halξ
    have hrr656ξ := zp_int (hokr656ξ _ rfl).1
    obtain ⟨hPer656ξ, hWnr656ξ, htr656ξ⟩ := hpsir656ξ
    obtain ⟨Mr656, hMr656ξ, hMkr656ξ, hM6r656ξ⟩ := zM_rul hMr654ξ hYF0ξ hfrr656ξ hextr656ξ
    subst hPer656ξ
    have hVr656ξ : ∀ o k, zNc o → Mr656 o k = (zp_set (zp_set V 6 1 (zq_nx (V 6 1))) 6 1 (zq_nx ((zp_set V 6 1 (zq_nx (V 6 1))) 6 1))) o k := fun o k hkξ => (hMkr656ξ o k (fun e => hkξ (by rw [e]; decide)) (fun e => hkξ (by rw [e]; decide))).trans (hVr654ξ o k hkξ)
    have hAbr656ξ := zAb_n (hAbr654ξ) (fun j => (hM6r656ξ (2000 + j)).trans (hWnr656ξ j)) hlr656ξ.1.2.2.2.2.1 (hMkr656ξ 4 2 (by decide) (by decide))
    clear hextr656ξ hfrr656ξ hokr656ξ hcsr656ξ hlr656ξ
    have htr656ξ : rnr656ξ = (zy_we (zg_ew (zRc (zp_set V 6 1 (zq_nx (V 6 1))) 7 53) zd_S0 (min ((zq_nx (V 6 1)) % 13) (if V 7 6 % 7 = 6 then V 1 16 else 12)) (-1) (-1) (-1)) Lwξ (min ((zq_nx (V 6 1)) % 13) (if V 7 6 % 7 = 6 then V 1 16 else 12))) := by
      have h9ξ : rnr656ξ = zy_we (zg_ew (zRc (zp_set V 6 1 (zq_nx (V 6 1))) 7 53) zd_S0 (min ((zq_nx (V 6 1)) % 13) (if V 7 6 % 7 = 6 then V 1 16 else 12)) (-1) (-1) (-1)) Lwξ (Mr654 66 (2000 + 0)) := htr656ξ
      rw [habr656ξ] at h9ξ
      exact h9ξ
    have hbr656ξ : 0 ≤ (zy_we (zg_ew (zRc (zp_set V 6 1 (zq_nx (V 6 1))) 7 53) zd_S0 (min ((zq_nx (V 6 1)) % 13) (if V 7 6 % 7 = 6 then V 1 16 else 12)) (-1) (-1) (-1)) Lwξ (min ((zq_nx (V 6 1)) % 13) (if V 7 6 % 7 = 6 then V 1 16 else 12))) ∧ (zy_we (zg_ew (zRc (zp_set V 6 1 (zq_nx (V 6 1))) 7 53) zd_S0 (min ((zq_nx (V 6 1)) % 13) (if V 7 6 % 7 = 6 then V 1 16 else 12)) (-1) (-1) (-1)) Lwξ (min ((zq_nx (V 6 1)) % 13) (if V 7 6 % 7 = 6 then V 1 16 else 12))) ≤ 999 := zy_web (by omega) (by omega)
    have htr656ξ := (Eq.symm htr656ξ)
    subst htr656ξ
    refine zp_call (pc := 61) (how := 0) (idx := 83) (mi := 99) (S := []) hx hb hEξ hwξ heffξ hrmξ (zX_wby7 hWξ A Y F (zp_set (zp_set V 6 1 (zq_nx (V 6 1))) 6 1 (zq_nx ((zp_set V 6 1 (zq_nx (V 6 1))) 6 1)))) rfl (j := 8) rfl rfl (by decide +kernel) (zd_X1_windByDraws (61, .invokevirtual 83, 3, 0, []) (List.mem_of_getElem? (i := 31) rfl)) [(A 7 : Int), (min ((zq_nx (V 6 1)) % 13) (if V 7 6 % 7 = 6 then V 1 16 else 12)), (zy_we (zg_ew (zRc (zp_set V 6 1 (zq_nx (V 6 1))) 7 53) zd_S0 (min ((zq_nx (V 6 1)) % 13) (if V 7 6 % 7 = 6 then V 1 16 else 12)) (-1) (-1) (-1)) Lwξ (min ((zq_nx (V 6 1)) % 13) (if V 7 6 % 7 = 6 then V 1 16 else 12)))] rfl ⟨zp_o2 (zM_P hMr656ξ (hYbξ _ (List.mem_of_getElem? (i := 7) rfl))), zp_o0 (by omega) (by omega) (by omega) (by omega), zp_o0 (by omega) (by omega) (by omega) (by omega), trivial⟩ (Nat.le_of_ble_eq_true rfl) ⟨⟨Mr656, hMr656ξ, hVr656ξ, trivial⟩, rfl, hYF0ξ, ((show 0 ≤ (zp_set (zp_set V 6 1 (zq_nx (V 6 1))) 6 1 (zq_nx ((zp_set V 6 1 (zq_nx (V 6 1))) 6 1))) 7 3 ∧ (zp_set (zp_set V 6 1 (zq_nx (V 6 1))) 6 1 (zq_nx ((zp_set V 6 1 (zq_nx (V 6 1))) 6 1))) 7 3 ≤ 9999 by rw [(Eq.trans rfl (Eq.trans rfl (Eq.trans rfl (Eq.trans (zp_set_ne (Or.inl (by decide))) (Eq.trans rfl (Eq.trans rfl (Eq.trans rfl (zp_set_ne (Or.inl (by decide))))))))))]; omega)).1, ((show 0 ≤ (zp_set (zp_set V 6 1 (zq_nx (V 6 1))) 6 1 (zq_nx ((zp_set V 6 1 (zq_nx (V 6 1))) 6 1))) 7 3 ∧ (zp_set (zp_set V 6 1 (zq_nx (V 6 1))) 6 1 (zq_nx ((zp_set V 6 1 (zq_nx (V 6 1))) 6 1))) 7 3 ≤ 9999 by rw [(Eq.trans rfl (Eq.trans rfl (Eq.trans rfl (Eq.trans (zp_set_ne (Or.inl (by decide))) (Eq.trans rfl (Eq.trans rfl (Eq.trans rfl (zp_set_ne (Or.inl (by decide))))))))))]; omega)).2, (show 0 ≤ (zy_we (zg_ew (zRc (zp_set V 6 1 (zq_nx (V 6 1))) 7 53) zd_S0 (min ((zq_nx (V 6 1)) % 13) (if V 7 6 % 7 = 6 then V 1 16 else 12)) (-1) (-1) (-1)) Lwξ (min ((zq_nx (V 6 1)) % 13) (if V 7 6 % 7 = 6 then V 1 16 else 12))) by omega), (show (zy_we (zg_ew (zRc (zp_set V 6 1 (zq_nx (V 6 1))) 7 53) zd_S0 (min ((zq_nx (V 6 1)) % 13) (if V 7 6 % 7 = 6 then V 1 16 else 12)) (-1) (-1) (-1)) Lwξ (min ((zq_nx (V 6 1)) % 13) (if V 7 6 % 7 = 6 then V 1 16 else 12))) ≤ 999 by omega)⟩ (fun al halξ rna657ξ Pa657 Ga657 hexta657ξ hfra657ξ hoka657ξ hcsa657ξ hpsia657ξ => ?_)
    obtain rfl := List.mem_singleton.mp halξ
    obtain ⟨hPea657ξ, Ma657, hMa657ξ, hVa657ξ, hSba657ξ⟩ := hpsia657ξ
    subst hPea657ξ
    clear hexta657ξ hfra657ξ hcsa657ξ hoka657ξ
    have hVa657ξ : ∀ o k, zNc o → Ma657 o k = (zf_wby7 (zp_set (zp_set V 6 1 (zq_nx (V 6 1))) 6 1 (zq_nx ((zp_set V 6 1 (zq_nx (V 6 1))) 6 1))) (min ((zq_nx (V 6 1)) % 13) (if V 7 6 % 7 = 6 then V 1 16 else 12)) (zy_we (zg_ew (zRc (zp_set V 6 1 (zq_nx (V 6 1))) 7 53) zd_S0 (min ((zq_nx (V 6 1)) % 13) (if V 7 6 % 7 = 6 then V 1 16 else 12)) (-1) (-1) (-1)) Lwξ (min ((zq_nx (V 6 1)) % 13) (if V 7 6 % 7 = 6 then V 1 16 else 12)))).2 o k := hVa657ξ
    refine zp_vret (pc := 64) hx hb hEξ hQξ hU5ξ rfl (by decide) (zd_X1_windByDraws (64, .return_, 1, 0, []) (List.mem_of_getElem? (i := 32) rfl)) (j := 0) rfl ?_
    rw [hpsξ]
    refine ⟨rfl, ?_⟩
    have hffξ : zf_wbd V Lwξ = (0, (zf_wby7 (zp_set (zp_set V 6 1 (zq_nx (V 6 1))) 6 1 (zq_nx ((zp_set V 6 1 (zq_nx (V 6 1))) 6 1))) (min ((zq_nx (V 6 1)) % 13) (if V 7 6 % 7 = 6 then V 1 16 else 12)) (zy_we (zg_ew (zRc (zp_set V 6 1 (zq_nx (V 6 1))) 7 53) zd_S0 (min ((zq_nx (V 6 1)) % 13) (if V 7 6 % 7 = 6 then V 1 16 else 12)) (-1) (-1) (-1)) Lwξ (min ((zq_nx (V 6 1)) % 13) (if V 7 6 % 7 = 6 then V 1 16 else 12)))).2) := by
      unfold zf_wbd
      rw [if_pos hc655ξ]
    show zMVc A Y F (zf_wbd V Lwξ).2 u.1 Ga657
    rw [hffξ]
    exact ⟨Ma657, hMa657ξ, hVa657ξ, trivial⟩
  · refine zp_load (pc := 41) hx hb (zd_X1_windByDraws (41, .aload_n 0, 1, 0, []) (List.mem_of_getElem? (i := 21) rfl)) rfl (j := 1) rfl ?_
    refine zp_getf (n := (A 7 : Int)) (pc := 42) hx hb hEξ hwξ (zd_X1_windByDraws (42, .getfield 12, 3, 0, []) (List.mem_of_getElem? (i := 22) rfl)) (j := 9) rfl rfl rfl (zM_P hMr654ξ (hYbξ _ (List.mem_of_getElem? (i := 6) rfl))) ((zM_G hMr654ξ (hYbξ _ (List.mem_of_getElem? (i := 6) rfl)) 0).trans (zM_F hMr654ξ (hFbξ _ (List.mem_of_getElem? (i := 47) rfl)))) ?_
    refine zp_const (pc := 45) hx hb (zd_X1_windByDraws (45, .iconst 1, 1, 0, []) (List.mem_of_getElem? (i := 23) rfl)) rfl rfl ?_
    refine zp_putf (pc := 46) hx hb hEξ hwξ heffξ (zd_X1_windByDraws (46, .putfield 42, 3, 0, []) (List.mem_of_getElem? (i := 24) rfl)) (j := 2) rfl rfl rfl (zM_P hMr654ξ (hYbξ _ (List.mem_of_getElem? (i := 7) rfl))) (zp_o0 (by decide) (by decide) (by decide) (by decide)) ?_
    refine zp_goto (tgt := 64) (pc := 49) hx hb (zd_X1_windByDraws (49, .goto 15, 3, 0, []) (List.mem_of_getElem? (i := 25) rfl)) rfl ?_
    refine zp_vret (pc := 64) hx hb hEξ hQξ hU5ξ rfl (by decide) (zd_X1_windByDraws (64, .return_, 1, 0, []) (List.mem_of_getElem? (i := 32) rfl)) (j := 0) rfl ?_
    rw [hpsξ]
    refine ⟨rfl, ?_⟩
    have hffξ : zf_wbd V Lwξ = (0, (zp_set (zp_set (zp_set V 6 1 (zq_nx (V 6 1))) 6 1 (zq_nx ((zp_set V 6 1 (zq_nx (V 6 1))) 6 1))) 7 4 1)) := by
      unfold zf_wbd
      rw [if_neg hc655ξ]
    show zMVc A Y F (zf_wbd V Lwξ).2 u.1 (zp_set Gr654 (A 7) 4 1)
    rw [hffξ]
    exact ⟨(zp_set Mr654 7 4 1), (zM_set hMr654ξ (hYbξ _ (List.mem_of_getElem? (i := 7) rfl)) (zFx hFxξ (o := 7) (k := 4) (by decide) (by decide))), (zV_set hVr654ξ), trivial⟩
noncomputable def zf_tld (V : Nat → Nat → Int) (p1ξ : Int) : Int × (Nat → Nat → Int) := if ¬ (V 6 3) = (-1) then if p1ξ = 0 then ((V 7 3), V) else if p1ξ = 1 then if (V 7 4) = 0 then (0, V) else (1, V) else if p1ξ = 2 then ((V 7 6), V) else if p1ξ = 3 then ((V 6 2), V) else if p1ξ < 4 then ((-1), V) else if (V 6 3) ≤ (p1ξ - 4) then ((-1), V) else if 10 ≤ (p1ξ - 4) then ((-1), V) else ((V 55 (2000 + ((p1ξ - 4)).toNat)), V) else ((-1), V)
noncomputable def zK_tld : zk_K := (zt_mn 175, prog_3_method_5_code, 2, (Option.some Jvm.ClassFile.FieldType.int), 1, 1, [(2, 1, 0, 0), (0, 0, (-2147483648), 2147483647)], [(some (0, 0, (-2147483648), 2147483647), [])], zUC, (0, 0, 0, 0))
noncomputable def zφ_tld (A : Nat → Nat) (Y : List (Nat × Nat)) (F : List (Nat × Nat × Nat)) (V : Nat → Nat → Int) : (Nat → Option Nat) → (Nat → Nat → Int) → List Int → Prop := fun P G ps => zMVc A Y F V P G ∧ ps.getD 0 0 = (A 6 : Int) ∧ zMc Y F
noncomputable def zψ_tld (A : Nat → Nat) (Y : List (Nat × Nat)) (F : List (Nat × Nat × Nat)) (V : Nat → Nat → Int) : (Nat → Option Nat) → (Nat → Nat → Int) → List Int → (Nat → Option Nat) → (Nat → Nat → Int) → Int → Prop := fun P G ps P' G' rn => P' = P ∧ zMVc A Y F (zf_tld V (ps.getD 1 0)).2 P' G' ∧ rn = (zf_tld V (ps.getD 1 0)).1
theorem zX_tld {l : Launch} {w : zk_W} (hWξ : zh_W w) (A : Nat → Nat) (Y : List (Nat × Nat)) (F : List (Nat × Nat × Nat)) (V : Nat → Nat → Int) : zk_metX l w zt_dv zt_TB zK_tld (zp_A (zφ_tld A Y F V)) (zp_B (zψ_tld A Y F V)) ∧ zk_cok w zt_TB zK_tld := by
  refine zp_methX (cn := "WoundTown$Decade") zp_lkallDc hWξ (pl := 1314) rfl (by decide +kernel) (fun p e R s m args below meth c Q u hx hb hEξ hQξ hU5ξ heffξ hnLξ hokξ hφ => ?_)
  have hwξ := hWξ.1
  obtain ⟨p0ξ, p1ξ, hpsξ, tk0, tk1⟩ := zp_ps2 hokξ
  have hrmξ : zk_Kr (zk_ev (zt_types, zp_lkDc, zt_dv, [], [], zp_lcDc, zK_tld)) = zk_Kr zK_tld := rfl
  rw [hpsξ] at hφ ⊢
  have hφ : zMVc A Y F V u.1 (zp_n u.2.1) ∧ p0ξ = (A 6 : Int) ∧ zMc Y F := hφ
  obtain ⟨⟨M, hMξ, hVξ, hSbξ⟩, rfl, hYFξ⟩ := hφ
  have hYF0ξ := hYFξ
  obtain ⟨hYbξ, hFbξ, hFxξ, -⟩ := hYFξ
  have hi1ξ := zp_int tk1
  show zp_J p l e R s m args below meth c Q w u [] 0 [(0, 2, (A 6 : Int)), (1, 0, p1ξ)] [] u.1 (zp_n u.2.1)
  refine zp_load (pc := 0) hx hb (zd_X1_told (0, .aload_n 0, 1, 0, []) (List.mem_of_getElem? (i := 0) rfl)) rfl (j := 0) rfl ?_
  refine zp_getf (n := (V 6 3)) (pc := 1) hx hb hEξ hwξ (zd_X1_told (1, .getfield 18, 3, 0, []) (List.mem_of_getElem? (i := 1) rfl)) (j := 12) rfl rfl rfl (zM_P hMξ (hYbξ _ (List.mem_of_getElem? (i := 6) rfl))) ((zM_G hMξ (hYbξ _ (List.mem_of_getElem? (i := 6) rfl)) 3).trans (hVξ 6 3 (by decide))) ?_
  refine zp_kn (k := 3) (a := (A 6)) hwξ (show zp_fd 1 3 = some (1, 0, 0, (-2147483648), 2147483647) from rfl) rfl (zM_P hMξ (hYbξ _ (List.mem_of_getElem? (i := 6) rfl))) (fun hf658ξ => ?_)
  have hf658bξ := zp_int hf658ξ
  rw [((zM_G hMξ (hYbξ _ (List.mem_of_getElem? (i := 6) rfl)) 3).trans (hVξ 6 3 (by decide)))] at hf658bξ
  clear hf658ξ
  refine zp_const (pc := 4) hx hb (zd_X1_told (4, .iconst (-1), 1, 0, []) (List.mem_of_getElem? (i := 2) rfl)) rfl rfl ?_
  refine zp_icmp (pc := 5) (tgt := 10) hx hb (zd_X1_told (5, .if_icmp .ne 5, 3, 0, []) (List.mem_of_getElem? (i := 3) rfl)) rfl (fun (hc659ξ : ¬ (V 6 3) = (-1)) => ?_) (fun (hc659ξ : ¬ (¬ (V 6 3) = (-1))) => ?_)
  · refine zp_load (pc := 10) hx hb (zd_X1_told (10, .iload_n 1, 1, 0, []) (List.mem_of_getElem? (i := 6) rfl)) rfl (j := 1) rfl ?_
    by_cases hc660ξ : p1ξ = 0
    · refine zp_tin (tgt := 40) (off := 29) (pc := 11) hx hb (zd_X1_told (11, .tableswitch 66 0 3 #[29, 37, 53, 61], 29, 0, []) (List.mem_of_getElem? (i := 7) rfl)) (by rw [hc660ξ]; decide) (by rw [hc660ξ]; decide) (by rw [hc660ξ]; decide) rfl ?_
      refine zp_load (pc := 40) hx hb (zd_X1_told (40, .aload_n 0, 1, 0, []) (List.mem_of_getElem? (i := 8) rfl)) rfl (j := 0) rfl ?_
      refine zp_getf (n := (A 7 : Int)) (pc := 41) hx hb hEξ hwξ (zd_X1_told (41, .getfield 12, 3, 0, []) (List.mem_of_getElem? (i := 9) rfl)) (j := 9) rfl rfl rfl (zM_P hMξ (hYbξ _ (List.mem_of_getElem? (i := 6) rfl))) ((zM_G hMξ (hYbξ _ (List.mem_of_getElem? (i := 6) rfl)) 0).trans (zM_F hMξ (hFbξ _ (List.mem_of_getElem? (i := 47) rfl)))) ?_
      refine zp_getf (n := (V 7 3)) (pc := 44) hx hb hEξ hwξ (zd_X1_told (44, .getfield 88, 3, 0, []) (List.mem_of_getElem? (i := 10) rfl)) (j := 1) rfl rfl rfl (zM_P hMξ (hYbξ _ (List.mem_of_getElem? (i := 7) rfl))) ((zM_G hMξ (hYbξ _ (List.mem_of_getElem? (i := 7) rfl)) 3).trans (hVξ 7 3 (by decide))) ?_
      refine zp_kn (k := 3) (a := (A 7)) hwξ (show zp_fd 2 3 = some (2, 0, 0, (-2147483648), 2147483647) from rfl) rfl (zM_P hMξ (hYbξ _ (List.mem_of_getElem? (i := 7) rfl))) (fun hf661ξ => ?_)
      have hf661bξ := zp_int hf661ξ
      rw [((zM_G hMξ (hYbξ _ (List.mem_of_getElem? (i := 7) rfl)) 3).trans (hVξ 7 3 (by decide)))] at hf661bξ
      clear hf661ξ
      refine zp_iret (pc := 47) (n := (V 7 3)) hx hb hEξ hQξ hU5ξ rfl (by decide) (zd_X1_told (47, .ireturn, 1, 0, []) (List.mem_of_getElem? (i := 11) rfl)) (j := 0) rfl (zp_o0 (by omega) (by omega) (by omega) (by omega)) ?_
      rw [hpsξ]
      refine ⟨rfl, ?_⟩
      have hffξ : zf_tld V p1ξ = ((V 7 3), V) := by
        unfold zf_tld
        rw [if_pos hc659ξ, if_pos hc660ξ]
      show zMVc A Y F (zf_tld V p1ξ).2 u.1 (zp_n u.2.1) ∧ (V 7 3) = (zf_tld V p1ξ).1
      rw [hffξ]
      exact ⟨⟨M, hMξ, hVξ, trivial⟩, rfl⟩
    by_cases hc662ξ : p1ξ = 1
    · refine zp_tin (tgt := 48) (off := 37) (pc := 11) hx hb (zd_X1_told (11, .tableswitch 66 0 3 #[29, 37, 53, 61], 29, 0, []) (List.mem_of_getElem? (i := 7) rfl)) (by rw [hc662ξ]; decide) (by rw [hc662ξ]; decide) (by rw [hc662ξ]; decide) rfl ?_
      refine zp_load (pc := 48) hx hb (zd_X1_told (48, .aload_n 0, 1, 0, []) (List.mem_of_getElem? (i := 12) rfl)) rfl (j := 0) rfl ?_
      refine zp_getf (n := (A 7 : Int)) (pc := 49) hx hb hEξ hwξ (zd_X1_told (49, .getfield 12, 3, 0, []) (List.mem_of_getElem? (i := 13) rfl)) (j := 9) rfl rfl rfl (zM_P hMξ (hYbξ _ (List.mem_of_getElem? (i := 6) rfl))) ((zM_G hMξ (hYbξ _ (List.mem_of_getElem? (i := 6) rfl)) 0).trans (zM_F hMξ (hFbξ _ (List.mem_of_getElem? (i := 47) rfl)))) ?_
      refine zp_getf (n := (V 7 4)) (pc := 52) hx hb hEξ hwξ (zd_X1_told (52, .getfield 42, 3, 0, []) (List.mem_of_getElem? (i := 14) rfl)) (j := 2) rfl rfl rfl (zM_P hMξ (hYbξ _ (List.mem_of_getElem? (i := 7) rfl))) ((zM_G hMξ (hYbξ _ (List.mem_of_getElem? (i := 7) rfl)) 4).trans (hVξ 7 4 (by decide))) ?_
      refine zp_kn (k := 4) (a := (A 7)) hwξ (show zp_fd 2 4 = some (2, 0, 0, 0, 1) from rfl) rfl (zM_P hMξ (hYbξ _ (List.mem_of_getElem? (i := 7) rfl))) (fun hf663ξ => ?_)
      have hf663bξ := zp_int hf663ξ
      rw [((zM_G hMξ (hYbξ _ (List.mem_of_getElem? (i := 7) rfl)) 4).trans (hVξ 7 4 (by decide)))] at hf663bξ
      clear hf663ξ
      refine zp_if (pc := 55) (tgt := 62) hx hb (zd_X1_told (55, .ifCond .eq 7, 3, 0, []) (List.mem_of_getElem? (i := 15) rfl)) rfl (fun (hc664ξ : (V 7 4) = 0) => ?_) (fun (hc664ξ : ¬ ((V 7 4) = 0)) => ?_)
      · refine zp_const (pc := 62) hx hb (zd_X1_told (62, .iconst 0, 1, 0, []) (List.mem_of_getElem? (i := 18) rfl)) rfl rfl ?_
        refine zp_iret (pc := 63) (n := 0) hx hb hEξ hQξ hU5ξ rfl (by decide) (zd_X1_told (63, .ireturn, 1, 0, []) (List.mem_of_getElem? (i := 19) rfl)) (j := 0) rfl (zp_o0 (by omega) (by omega) (by omega) (by omega)) ?_
        rw [hpsξ]
        refine ⟨rfl, ?_⟩
        have hffξ : zf_tld V p1ξ = (0, V) := by
          unfold zf_tld
          rw [if_pos hc659ξ, if_neg hc660ξ, if_pos hc662ξ, if_pos hc664ξ]
        show zMVc A Y F (zf_tld V p1ξ).2 u.1 (zp_n u.2.1) ∧ 0 = (zf_tld V p1ξ).1
        rw [hffξ]
        exact ⟨⟨M, hMξ, hVξ, trivial⟩, rfl⟩
      · refine zp_const (pc := 58) hx hb (zd_X1_told (58, .iconst 1, 1, 0, []) (List.mem_of_getElem? (i := 16) rfl)) rfl rfl ?_
        refine zp_goto (tgt := 63) (pc := 59) hx hb (zd_X1_told (59, .goto 4, 3, 0, []) (List.mem_of_getElem? (i := 17) rfl)) rfl ?_
        refine zp_iret (pc := 63) (n := 1) hx hb hEξ hQξ hU5ξ rfl (by decide) (zd_X1_told (63, .ireturn, 1, 0, []) (List.mem_of_getElem? (i := 19) rfl)) (j := 0) rfl (zp_o0 (by omega) (by omega) (by omega) (by omega)) ?_
        rw [hpsξ]
        refine ⟨rfl, ?_⟩
        have hffξ : zf_tld V p1ξ = (1, V) := by
          unfold zf_tld
          rw [if_pos hc659ξ, if_neg hc660ξ, if_pos hc662ξ, if_neg hc664ξ]
        show zMVc A Y F (zf_tld V p1ξ).2 u.1 (zp_n u.2.1) ∧ 1 = (zf_tld V p1ξ).1
        rw [hffξ]
        exact ⟨⟨M, hMξ, hVξ, trivial⟩, rfl⟩
    by_cases hc665ξ : p1ξ = 2
    · refine zp_tin (tgt := 64) (off := 53) (pc := 11) hx hb (zd_X1_told (11, .tableswitch 66 0 3 #[29, 37, 53, 61], 29, 0, []) (List.mem_of_getElem? (i := 7) rfl)) (by rw [hc665ξ]; decide) (by rw [hc665ξ]; decide) (by rw [hc665ξ]; decide) rfl ?_
      refine zp_load (pc := 64) hx hb (zd_X1_told (64, .aload_n 0, 1, 0, []) (List.mem_of_getElem? (i := 20) rfl)) rfl (j := 0) rfl ?_
      refine zp_getf (n := (A 7 : Int)) (pc := 65) hx hb hEξ hwξ (zd_X1_told (65, .getfield 12, 3, 0, []) (List.mem_of_getElem? (i := 21) rfl)) (j := 9) rfl rfl rfl (zM_P hMξ (hYbξ _ (List.mem_of_getElem? (i := 6) rfl))) ((zM_G hMξ (hYbξ _ (List.mem_of_getElem? (i := 6) rfl)) 0).trans (zM_F hMξ (hFbξ _ (List.mem_of_getElem? (i := 47) rfl)))) ?_
      refine zp_getf (n := (V 7 6)) (pc := 68) hx hb hEξ hwξ (zd_X1_told (68, .getfield 36, 3, 0, []) (List.mem_of_getElem? (i := 22) rfl)) (j := 4) rfl rfl rfl (zM_P hMξ (hYbξ _ (List.mem_of_getElem? (i := 7) rfl))) ((zM_G hMξ (hYbξ _ (List.mem_of_getElem? (i := 7) rfl)) 6).trans (hVξ 7 6 (by decide))) ?_
      refine zp_kn (k := 6) (a := (A 7)) hwξ (show zp_fd 2 6 = some (2, 0, 0, (-2147483648), 2147483647) from rfl) rfl (zM_P hMξ (hYbξ _ (List.mem_of_getElem? (i := 7) rfl))) (fun hf666ξ => ?_)
      have hf666bξ := zp_int hf666ξ
      rw [((zM_G hMξ (hYbξ _ (List.mem_of_getElem? (i := 7) rfl)) 6).trans (hVξ 7 6 (by decide)))] at hf666bξ
      clear hf666ξ
      refine zp_iret (pc := 71) (n := (V 7 6)) hx hb hEξ hQξ hU5ξ rfl (by decide) (zd_X1_told (71, .ireturn, 1, 0, []) (List.mem_of_getElem? (i := 23) rfl)) (j := 0) rfl (zp_o0 (by omega) (by omega) (by omega) (by omega)) ?_
      rw [hpsξ]
      refine ⟨rfl, ?_⟩
      have hffξ : zf_tld V p1ξ = ((V 7 6), V) := by
        unfold zf_tld
        rw [if_pos hc659ξ, if_neg hc660ξ, if_neg hc662ξ, if_pos hc665ξ]
      show zMVc A Y F (zf_tld V p1ξ).2 u.1 (zp_n u.2.1) ∧ (V 7 6) = (zf_tld V p1ξ).1
      rw [hffξ]
      exact ⟨⟨M, hMξ, hVξ, trivial⟩, rfl⟩
    by_cases hc667ξ : p1ξ = 3
    · refine zp_tin (tgt := 72) (off := 61) (pc := 11) hx hb (zd_X1_told (11, .tableswitch 66 0 3 #[29, 37, 53, 61], 29, 0, []) (List.mem_of_getElem? (i := 7) rfl)) (by rw [hc667ξ]; decide) (by rw [hc667ξ]; decide) (by rw [hc667ξ]; decide) rfl ?_
      refine zp_load (pc := 72) hx hb (zd_X1_told (72, .aload_n 0, 1, 0, []) (List.mem_of_getElem? (i := 24) rfl)) rfl (j := 0) rfl ?_
      refine zp_getf (n := (V 6 2)) (pc := 73) hx hb hEξ hwξ (zd_X1_told (73, .getfield 33, 3, 0, []) (List.mem_of_getElem? (i := 25) rfl)) (j := 11) rfl rfl rfl (zM_P hMξ (hYbξ _ (List.mem_of_getElem? (i := 6) rfl))) ((zM_G hMξ (hYbξ _ (List.mem_of_getElem? (i := 6) rfl)) 2).trans (hVξ 6 2 (by decide))) ?_
      refine zp_kn (k := 2) (a := (A 6)) hwξ (show zp_fd 1 2 = some (1, 0, 0, (-2147483648), 2147483647) from rfl) rfl (zM_P hMξ (hYbξ _ (List.mem_of_getElem? (i := 6) rfl))) (fun hf668ξ => ?_)
      have hf668bξ := zp_int hf668ξ
      rw [((zM_G hMξ (hYbξ _ (List.mem_of_getElem? (i := 6) rfl)) 2).trans (hVξ 6 2 (by decide)))] at hf668bξ
      clear hf668ξ
      refine zp_iret (pc := 76) (n := (V 6 2)) hx hb hEξ hQξ hU5ξ rfl (by decide) (zd_X1_told (76, .ireturn, 1, 0, []) (List.mem_of_getElem? (i := 26) rfl)) (j := 0) rfl (zp_o0 (by omega) (by omega) (by omega) (by omega)) ?_
      rw [hpsξ]
      refine ⟨rfl, ?_⟩
      have hffξ : zf_tld V p1ξ = ((V 6 2), V) := by
        unfold zf_tld
        rw [if_pos hc659ξ, if_neg hc660ξ, if_neg hc662ξ, if_neg hc665ξ, if_pos hc667ξ]
      show zMVc A Y F (zf_tld V p1ξ).2 u.1 (zp_n u.2.1) ∧ (V 6 2) = (zf_tld V p1ξ).1
      rw [hffξ]
      exact ⟨⟨M, hMξ, hVξ, trivial⟩, rfl⟩
    refine zp_tout (tgt := 77) (pc := 11) hx hb (zd_X1_told (11, .tableswitch 66 0 3 #[29, 37, 53, 61], 29, 0, []) (List.mem_of_getElem? (i := 7) rfl)) (by omega) rfl ?_
    refine zp_load (pc := 77) hx hb (zd_X1_told (77, .iload_n 1, 1, 0, []) (List.mem_of_getElem? (i := 27) rfl)) rfl (j := 1) rfl ?_
    refine zp_const (pc := 78) hx hb (zd_X1_told (78, .iconst 4, 1, 0, []) (List.mem_of_getElem? (i := 28) rfl)) rfl rfl ?_
    refine zp_icmp (pc := 79) (tgt := 114) hx hb (zd_X1_told (79, .if_icmp .lt 35, 3, 0, []) (List.mem_of_getElem? (i := 29) rfl)) rfl (fun (hc669ξ : p1ξ < 4) => ?_) (fun (hc669ξ : ¬ (p1ξ < 4)) => ?_)
    · refine zp_const (pc := 114) hx hb (zd_X1_told (114, .iconst (-1), 1, 0, []) (List.mem_of_getElem? (i := 49) rfl)) rfl rfl ?_
      refine zp_iret (pc := 115) (n := (-1)) hx hb hEξ hQξ hU5ξ rfl (by decide) (zd_X1_told (115, .ireturn, 1, 0, []) (List.mem_of_getElem? (i := 50) rfl)) (j := 0) rfl (zp_o0 (by omega) (by omega) (by omega) (by omega)) ?_
      rw [hpsξ]
      refine ⟨rfl, ?_⟩
      have hffξ : zf_tld V p1ξ = ((-1), V) := by
        unfold zf_tld
        rw [if_pos hc659ξ, if_neg hc660ξ, if_neg hc662ξ, if_neg hc665ξ, if_neg hc667ξ, if_pos hc669ξ]
      show zMVc A Y F (zf_tld V p1ξ).2 u.1 (zp_n u.2.1) ∧ (-1) = (zf_tld V p1ξ).1
      rw [hffξ]
      exact ⟨⟨M, hMξ, hVξ, trivial⟩, rfl⟩
    · refine zp_load (pc := 82) hx hb (zd_X1_told (82, .iload_n 1, 1, 0, []) (List.mem_of_getElem? (i := 30) rfl)) rfl (j := 1) rfl ?_
      refine zp_const (pc := 83) hx hb (zd_X1_told (83, .iconst 4, 1, 0, []) (List.mem_of_getElem? (i := 31) rfl)) rfl rfl ?_
      refine zp_sub (n := (p1ξ - 4)) (pc := 84) hx hb (zd_X1_told (84, .isub, 1, 0, []) (List.mem_of_getElem? (i := 32) rfl)) (by omega) (zp_r0 (by omega) (by omega)) ?_
      refine zp_load (pc := 85) hx hb (zd_X1_told (85, .aload_n 0, 1, 0, []) (List.mem_of_getElem? (i := 33) rfl)) rfl (j := 0) rfl ?_
      refine zp_getf (n := (V 6 3)) (pc := 86) hx hb hEξ hwξ (zd_X1_told (86, .getfield 18, 3, 0, []) (List.mem_of_getElem? (i := 34) rfl)) (j := 12) rfl rfl rfl (zM_P hMξ (hYbξ _ (List.mem_of_getElem? (i := 6) rfl))) ((zM_G hMξ (hYbξ _ (List.mem_of_getElem? (i := 6) rfl)) 3).trans (hVξ 6 3 (by decide))) ?_
      refine zp_icmp (pc := 89) (tgt := 114) hx hb (zd_X1_told (89, .if_icmp .ge 25, 3, 0, []) (List.mem_of_getElem? (i := 35) rfl)) rfl (fun (hc670ξ : (V 6 3) ≤ (p1ξ - 4)) => ?_) (fun (hc670ξ : ¬ ((V 6 3) ≤ (p1ξ - 4))) => ?_)
      · refine zp_const (pc := 114) hx hb (zd_X1_told (114, .iconst (-1), 1, 0, []) (List.mem_of_getElem? (i := 49) rfl)) rfl rfl ?_
        refine zp_iret (pc := 115) (n := (-1)) hx hb hEξ hQξ hU5ξ rfl (by decide) (zd_X1_told (115, .ireturn, 1, 0, []) (List.mem_of_getElem? (i := 50) rfl)) (j := 0) rfl (zp_o0 (by omega) (by omega) (by omega) (by omega)) ?_
        rw [hpsξ]
        refine ⟨rfl, ?_⟩
        have hffξ : zf_tld V p1ξ = ((-1), V) := by
          unfold zf_tld
          rw [if_pos hc659ξ, if_neg hc660ξ, if_neg hc662ξ, if_neg hc665ξ, if_neg hc667ξ, if_neg hc669ξ, if_pos hc670ξ]
        show zMVc A Y F (zf_tld V p1ξ).2 u.1 (zp_n u.2.1) ∧ (-1) = (zf_tld V p1ξ).1
        rw [hffξ]
        exact ⟨⟨M, hMξ, hVξ, trivial⟩, rfl⟩
      · refine zp_load (pc := 92) hx hb (zd_X1_told (92, .iload_n 1, 1, 0, []) (List.mem_of_getElem? (i := 36) rfl)) rfl (j := 1) rfl ?_
        refine zp_const (pc := 93) hx hb (zd_X1_told (93, .iconst 4, 1, 0, []) (List.mem_of_getElem? (i := 37) rfl)) rfl rfl ?_
        refine zp_sub (n := (p1ξ - 4)) (pc := 94) hx hb (zd_X1_told (94, .isub, 1, 0, []) (List.mem_of_getElem? (i := 38) rfl)) (by omega) (zp_r0 (by omega) (by omega)) ?_
        refine zp_const (pc := 95) hx hb (zd_X1_told (95, .bipush 10, 2, 0, []) (List.mem_of_getElem? (i := 39) rfl)) rfl rfl ?_
        refine zp_icmp (pc := 97) (tgt := 114) hx hb (zd_X1_told (97, .if_icmp .ge 17, 3, 0, []) (List.mem_of_getElem? (i := 40) rfl)) rfl (fun (hc671ξ : 10 ≤ (p1ξ - 4)) => ?_) (fun (hc671ξ : ¬ (10 ≤ (p1ξ - 4))) => ?_)
        · refine zp_const (pc := 114) hx hb (zd_X1_told (114, .iconst (-1), 1, 0, []) (List.mem_of_getElem? (i := 49) rfl)) rfl rfl ?_
          refine zp_iret (pc := 115) (n := (-1)) hx hb hEξ hQξ hU5ξ rfl (by decide) (zd_X1_told (115, .ireturn, 1, 0, []) (List.mem_of_getElem? (i := 50) rfl)) (j := 0) rfl (zp_o0 (by omega) (by omega) (by omega) (by omega)) ?_
          rw [hpsξ]
          refine ⟨rfl, ?_⟩
          have hffξ : zf_tld V p1ξ = ((-1), V) := by
            unfold zf_tld
            rw [if_pos hc659ξ, if_neg hc660ξ, if_neg hc662ξ, if_neg hc665ξ, if_neg hc667ξ, if_neg hc669ξ, if_neg hc670ξ, if_pos hc671ξ]
          show zMVc A Y F (zf_tld V p1ξ).2 u.1 (zp_n u.2.1) ∧ (-1) = (zf_tld V p1ξ).1
          rw [hffξ]
          exact ⟨⟨M, hMξ, hVξ, trivial⟩, rfl⟩
        · refine zp_load (pc := 100) hx hb (zd_X1_told (100, .aload_n 0, 1, 0, []) (List.mem_of_getElem? (i := 41) rfl)) rfl (j := 0) rfl ?_
          refine zp_getf (n := (A 7 : Int)) (pc := 101) hx hb hEξ hwξ (zd_X1_told (101, .getfield 12, 3, 0, []) (List.mem_of_getElem? (i := 42) rfl)) (j := 9) rfl rfl rfl (zM_P hMξ (hYbξ _ (List.mem_of_getElem? (i := 6) rfl))) ((zM_G hMξ (hYbξ _ (List.mem_of_getElem? (i := 6) rfl)) 0).trans (zM_F hMξ (hFbξ _ (List.mem_of_getElem? (i := 47) rfl)))) ?_
          refine zp_getf (n := (A 55 : Int)) (pc := 104) hx hb hEξ hwξ (zd_X1_told (104, .getfield 91, 3, 0, []) (List.mem_of_getElem? (i := 43) rfl)) (j := 0) rfl rfl rfl (zM_P hMξ (hYbξ _ (List.mem_of_getElem? (i := 7) rfl))) ((zM_G hMξ (hYbξ _ (List.mem_of_getElem? (i := 7) rfl)) 2).trans (zM_F hMξ (hFbξ _ (List.mem_of_getElem? (i := 30) rfl)))) ?_
          refine zp_load (pc := 107) hx hb (zd_X1_told (107, .iload_n 1, 1, 0, []) (List.mem_of_getElem? (i := 44) rfl)) rfl (j := 1) rfl ?_
          refine zp_const (pc := 108) hx hb (zd_X1_told (108, .iconst 4, 1, 0, []) (List.mem_of_getElem? (i := 45) rfl)) rfl rfl ?_
          refine zp_sub (n := (p1ξ - 4)) (pc := 109) hx hb (zd_X1_told (109, .isub, 1, 0, []) (List.mem_of_getElem? (i := 46) rfl)) (by omega) (zp_r0 (by omega) (by omega)) ?_
          refine zp_iald (j := ((p1ξ - 4)).toNat) (v := (V 55 (2000 + ((p1ξ - 4)).toNat))) (pc := 110) hx hb hwξ (zd_X1_told (110, .iaload, 1, 0, []) (List.mem_of_getElem? (i := 47) rfl)) (show zp_ia 1 19 = some (10, 0, 0, (-2147483648), 2147483647) from rfl) (zM_P hMξ (hYbξ _ (List.mem_of_getElem? (i := 33) rfl))) (by omega) (by omega) ((zM_G hMξ (hYbξ _ (List.mem_of_getElem? (i := 33) rfl)) (2000 + ((p1ξ - 4)).toNat)).trans (hVξ 55 (2000 + ((p1ξ - 4)).toNat) (by decide))) (fun hk672ξ => ?_)
          have hk672bξ := zp_int hk672ξ
          clear hk672ξ
          refine zp_goto (tgt := 115) (pc := 111) hx hb (zd_X1_told (111, .goto 4, 3, 0, []) (List.mem_of_getElem? (i := 48) rfl)) rfl ?_
          refine zp_iret (pc := 115) (n := (V 55 (2000 + ((p1ξ - 4)).toNat))) hx hb hEξ hQξ hU5ξ rfl (by decide) (zd_X1_told (115, .ireturn, 1, 0, []) (List.mem_of_getElem? (i := 50) rfl)) (j := 0) rfl (zp_o0 (by omega) (by omega) (by omega) (by omega)) ?_
          rw [hpsξ]
          refine ⟨rfl, ?_⟩
          have hffξ : zf_tld V p1ξ = ((V 55 (2000 + ((p1ξ - 4)).toNat)), V) := by
            unfold zf_tld
            rw [if_pos hc659ξ, if_neg hc660ξ, if_neg hc662ξ, if_neg hc665ξ, if_neg hc667ξ, if_neg hc669ξ, if_neg hc670ξ, if_neg hc671ξ]
          show zMVc A Y F (zf_tld V p1ξ).2 u.1 (zp_n u.2.1) ∧ (V 55 (2000 + ((p1ξ - 4)).toNat)) = (zf_tld V p1ξ).1
          rw [hffξ]
          exact ⟨⟨M, hMξ, hVξ, trivial⟩, rfl⟩
  · refine zp_const (pc := 8) hx hb (zd_X1_told (8, .iconst (-1), 1, 0, []) (List.mem_of_getElem? (i := 4) rfl)) rfl rfl ?_
    refine zp_iret (pc := 9) (n := (-1)) hx hb hEξ hQξ hU5ξ rfl (by decide) (zd_X1_told (9, .ireturn, 1, 0, []) (List.mem_of_getElem? (i := 5) rfl)) (j := 0) rfl (zp_o0 (by omega) (by omega) (by omega) (by omega)) ?_
    rw [hpsξ]
    refine ⟨rfl, ?_⟩
    have hffξ : zf_tld V p1ξ = ((-1), V) := by
      unfold zf_tld
      rw [if_neg hc659ξ]
    show zMVc A Y F (zf_tld V p1ξ).2 u.1 (zp_n u.2.1) ∧ (-1) = (zf_tld V p1ξ).1
    rw [hffξ]
    exact ⟨⟨M, hMξ, hVξ, trivial⟩, rfl⟩
noncomputable def zf_drwc (V : Nat → Nat → Int) (p1ξ : Int) : Int × (Nat → Nat → Int) := (((zf_tld V p1ξ).1), (zf_tld V p1ξ).2)
noncomputable def zK_drwc : zk_K := (zt_mn 174, prog_1_method_46_code, 2, (Option.some Jvm.ClassFile.FieldType.int), 1, 11, [(2, 12, 0, 0), (0, 0, (-2147483648), 2147483647)], [(some (0, 0, (-2147483648), 2147483647), [])], zUC, (1, 60, 0, 0))
noncomputable def zφ_drwc (A : Nat → Nat) (Y : List (Nat × Nat)) (F : List (Nat × Nat × Nat)) (V : Nat → Nat → Int) : (Nat → Option Nat) → (Nat → Nat → Int) → List Int → Prop := fun P G ps => zMVc A Y F V P G ∧ ps.getD 0 0 = (A 0 : Int) ∧ zMc Y F
noncomputable def zψ_drwc (A : Nat → Nat) (Y : List (Nat × Nat)) (F : List (Nat × Nat × Nat)) (V : Nat → Nat → Int) : (Nat → Option Nat) → (Nat → Nat → Int) → List Int → (Nat → Option Nat) → (Nat → Nat → Int) → Int → Prop := fun P G ps P' G' rn => P' = P ∧ zMVc A Y F (zf_drwc V (ps.getD 1 0)).2 P' G' ∧ rn = (zf_drwc V (ps.getD 1 0)).1
theorem zX_drwc {l : Launch} {w : zk_W} (hWξ : zh_W w) (A : Nat → Nat) (Y : List (Nat × Nat)) (F : List (Nat × Nat × Nat)) (V : Nat → Nat → Int) : zk_metX l w zt_dv zt_TB zK_drwc (zp_A (zφ_drwc A Y F V)) (zp_B (zψ_drwc A Y F V)) ∧ zk_cok w zt_TB zK_drwc := by
  refine zp_methX (cn := "WoundTown") zp_lkallW hWξ (pl := 1310) rfl (by decide +kernel) (fun p e R s m args below meth c Q u hx hb hEξ hQξ hU5ξ heffξ hnLξ hokξ hφ => ?_)
  have hwξ := hWξ.1
  obtain ⟨p0ξ, p1ξ, hpsξ, tk0, tk1⟩ := zp_ps2 hokξ
  have hrmξ : zk_Kr (zk_ev (zt_types, zp_lkW, zt_dv, [], [], zp_lcW, zK_drwc)) = zk_Kr zK_drwc := rfl
  rw [hpsξ] at hφ ⊢
  have hφ : zMVc A Y F V u.1 (zp_n u.2.1) ∧ p0ξ = (A 0 : Int) ∧ zMc Y F := hφ
  obtain ⟨⟨M, hMξ, hVξ, hSbξ⟩, rfl, hYFξ⟩ := hφ
  have hYF0ξ := hYFξ
  obtain ⟨hYbξ, hFbξ, hFxξ, -⟩ := hYFξ
  have hi1ξ := zp_int tk1
  show zp_J p l e R s m args below meth c Q w u [] 0 [(0, 2, (A 0 : Int)), (1, 0, p1ξ)] [] u.1 (zp_n u.2.1)
  refine zp_load (pc := 0) hx hb (zd_X11_drawn (0, .aload_n 0, 1, 0, []) (List.mem_of_getElem? (i := 0) rfl)) rfl (j := 0) rfl ?_
  refine zp_getf (n := (A 6 : Int)) (pc := 1) hx hb hEξ hwξ (zd_X11_drawn (1, .getfield 60, 3, 0, []) (List.mem_of_getElem? (i := 1) rfl)) (j := 57) rfl rfl rfl (zM_P hMξ (hYbξ _ (List.mem_of_getElem? (i := 0) rfl))) ((zM_G hMξ (hYbξ _ (List.mem_of_getElem? (i := 0) rfl)) 7).trans (zM_F hMξ (hFbξ _ (List.mem_of_getElem? (i := 5) rfl)))) ?_
  refine zp_load (pc := 4) hx hb (zd_X11_drawn (4, .iload_n 1, 1, 0, []) (List.mem_of_getElem? (i := 2) rfl)) rfl (j := 1) rfl ?_
  refine zp_call (pc := 5) (how := 0) (idx := 431) (mi := 175) (S := []) hx hb hEξ hwξ heffξ hrmξ (zX_tld hWξ A Y F V) rfl (j := 64) rfl rfl (by decide +kernel) (zd_X11_drawn (5, .invokevirtual 431, 3, 0, []) (List.mem_of_getElem? (i := 3) rfl)) [(A 6 : Int), p1ξ] rfl ⟨zp_o2 (zM_P hMξ (hYbξ _ (List.mem_of_getElem? (i := 6) rfl))), zp_o0 (by omega) (by omega) (by omega) (by omega), trivial⟩ (Nat.le_of_ble_eq_true rfl) ⟨⟨M, hMξ, hVξ, trivial⟩, rfl, hYF0ξ⟩ (fun al halξ rna673ξ Pa673 Ga673 hexta673ξ hfra673ξ hoka673ξ hcsa673ξ hpsia673ξ => ?_)
  obtain rfl := List.mem_singleton.mp halξ
  have hra673ξ := zp_int (hoka673ξ _ rfl).1
  obtain ⟨hPea673ξ, ⟨Ma673, hMa673ξ, hVa673ξ, hSba673ξ⟩, hta673ξ⟩ := hpsia673ξ
  subst hPea673ξ
  clear hexta673ξ hfra673ξ hcsa673ξ hoka673ξ
  have hVa673ξ : ∀ o k, zNc o → Ma673 o k = (zf_tld V p1ξ).2 o k := hVa673ξ
  have hta673ξ : rna673ξ = ((zf_tld V p1ξ).1) := hta673ξ
  have hta673ξ := (Eq.symm hta673ξ)
  subst hta673ξ
  refine zp_iret (pc := 8) (n := ((zf_tld V p1ξ).1)) hx hb hEξ hQξ hU5ξ rfl (by decide) (zd_X11_drawn (8, .ireturn, 1, 0, []) (List.mem_of_getElem? (i := 4) rfl)) (j := 0) rfl (zp_o0 (by omega) (by omega) (by omega) (by omega)) ?_
  rw [hpsξ]
  refine ⟨rfl, ?_⟩
  have hffξ : zf_drwc V p1ξ = (((zf_tld V p1ξ).1), (zf_tld V p1ξ).2) := rfl
  show zMVc A Y F (zf_drwc V p1ξ).2 u.1 Ga673 ∧ ((zf_tld V p1ξ).1) = (zf_drwc V p1ξ).1
  rw [hffξ]
  exact ⟨⟨Ma673, hMa673ξ, hVa673ξ, trivial⟩, rfl⟩