/-! part i1: the class over logical cells: answers told, what the town is told, the small calls -/
noncomputable def zUC : List (Nat × Nat × Nat) := [(12, 13, 0), (12, 14, 0), (12, 15, 0), (12, 17, 0), (12, 18, 0), (10, 1, 0), (10, 3, 0), (10, 9, 0), (10, 14, 0), (10, 15, 0), (10, 16, 0), (10, 17, 0), (2, 3, 0), (2, 4, 0), (2, 5, 0), (2, 6, 0), (11, 2, 0), (11, 3, 0), (0, 1, 0), (0, 2, 0), (6, 2, 0), (1, 1, 0), (1, 2, 0), (1, 3, 0), (7, 1, 0), (7, 2, 0), (7, 3, 0), (7, 4, 0), (7, 5, 0), (14, 1001, 0), (15, 1001, 0), (16, 1001, 0), (17, 1001, 0), (18, 1001, 0), (19, 1001, 0), (27, 1001, 0), (28, 1001, 0), (29, 1001, 0), (42, 1001, 0), (43, 1001, 0), (44, 1001, 0), (45, 1001, 0), (46, 1001, 0), (47, 1001, 0), (48, 1001, 0), (49, 1001, 0), (50, 1001, 0), (51, 1001, 0), (53, 1001, 0), (54, 1001, 0), (56, 1001, 0), (57, 1001, 0)]
noncomputable def zf_ans (V : Nat → Nat → Int) (p1ξ : Int) : Int × (Nat → Nat → Int) := (p1ξ, (zp_set V 0 18 0))
noncomputable def zK_ans : zk_K := (zt_mn 17, prog_1_method_51_code, 2, (Option.some Jvm.ClassFile.FieldType.int), 1, 11, [(2, 12, 0, 0), (0, 0, (-2147483648), 2147483647)], [(some (0, 0, (-2147483648), 2147483647), [])], zUC, (0, 0, 0, 0))
noncomputable def zφ_ans (A : Nat → Nat) (Y : List (Nat × Nat)) (F : List (Nat × Nat × Nat)) (V : Nat → Nat → Int) : (Nat → Option Nat) → (Nat → Nat → Int) → List Int → Prop := fun P G ps => zMVc A Y F V P G ∧ ps.getD 0 0 = (A 0 : Int) ∧ zMc Y F
noncomputable def zψ_ans (A : Nat → Nat) (Y : List (Nat × Nat)) (F : List (Nat × Nat × Nat)) (V : Nat → Nat → Int) : (Nat → Option Nat) → (Nat → Nat → Int) → List Int → (Nat → Option Nat) → (Nat → Nat → Int) → Int → Prop := fun P G ps P' G' rn => P' = P ∧ zMVc A Y F (zf_ans V (ps.getD 1 0)).2 P' G' ∧ rn = (zf_ans V (ps.getD 1 0)).1
theorem zX_ans {l : Launch} {w : zk_W} (hWξ : zh_W w) (A : Nat → Nat) (Y : List (Nat × Nat)) (F : List (Nat × Nat × Nat)) (V : Nat → Nat → Int) : zk_metX l w zt_dv zt_TB zK_ans (zp_A (zφ_ans A Y F V)) (zp_B (zψ_ans A Y F V)) ∧ zk_cok w zt_TB zK_ans := by
  refine zp_methX (cn := "WoundTown") zp_lkallW hWξ (pl := 615) rfl (by decide +kernel) (fun p e R s m args below meth c Q u hx hb hEξ hQξ hU5ξ heffξ hnLξ hokξ hφ => ?_)
  have hwξ := hWξ.1
  obtain ⟨p0ξ, p1ξ, hpsξ, tk0, tk1⟩ := zp_ps2 hokξ
  have hrmξ : zk_Kr (zk_ev (zt_types, zp_lkW, zt_dv, [], [], zp_lcW, zK_ans)) = zk_Kr zK_ans := rfl
  rw [hpsξ] at hφ ⊢
  have hφ : zMVc A Y F V u.1 (zp_n u.2.1) ∧ p0ξ = (A 0 : Int) ∧ zMc Y F := hφ
  obtain ⟨⟨M, hMξ, hVξ, hSbξ⟩, rfl, hYFξ⟩ := hφ
  have hYF0ξ := hYFξ
  obtain ⟨hYbξ, hFbξ, hFxξ, -⟩ := hYFξ
  have hi1ξ := zp_int tk1
  show zp_J p l e R s m args below meth c Q w u [] 0 [(0, 2, (A 0 : Int)), (1, 0, p1ξ)] [] u.1 (zp_n u.2.1)
  refine zp_load (pc := 0) hx hb (zd_X11_answered (0, .aload_n 0, 1, 0, []) (List.mem_of_getElem? (i := 0) rfl)) rfl (j := 0) rfl ?_
  refine zp_const (pc := 1) hx hb (zd_X11_answered (1, .iconst 0, 1, 0, []) (List.mem_of_getElem? (i := 1) rfl)) rfl rfl ?_
  refine zp_putf (pc := 2) hx hb hEξ hwξ heffξ (zd_X11_answered (2, .putfield 438, 3, 0, []) (List.mem_of_getElem? (i := 2) rfl)) (j := 68) rfl rfl rfl (zM_P hMξ (hYbξ _ (List.mem_of_getElem? (i := 0) rfl))) (zp_o0 (by decide) (by decide) (by decide) (by decide)) ?_
  refine zp_load (pc := 5) hx hb (zd_X11_answered (5, .iload_n 1, 1, 0, []) (List.mem_of_getElem? (i := 3) rfl)) rfl (j := 1) rfl ?_
  refine zp_iret (pc := 6) (n := p1ξ) hx hb hEξ hQξ hU5ξ rfl (by decide) (zd_X11_answered (6, .ireturn, 1, 0, []) (List.mem_of_getElem? (i := 4) rfl)) (j := 0) rfl (zp_o0 (by omega) (by omega) (by omega) (by omega)) ?_
  rw [hpsξ]
  refine ⟨rfl, ?_⟩
  have hffξ : zf_ans V p1ξ = (p1ξ, (zp_set V 0 18 0)) := rfl
  show zMVc A Y F (zf_ans V p1ξ).2 u.1 (zp_set (zp_n u.2.1) (A 0) 18 0) ∧ p1ξ = (zf_ans V p1ξ).1
  rw [hffξ]
  exact ⟨⟨(zp_set M 0 18 0), (zM_set hMξ (hYbξ _ (List.mem_of_getElem? (i := 0) rfl)) (zFx hFxξ (o := 0) (k := 18) (by decide) (by decide))), (zV_set hVξ), trivial⟩, rfl⟩
theorem zf_ans_f {V : Nat → Nat → Int} {p1ξ : Int} {o k : Nat} (h9ξ : o ∉ ([0] : List Nat)) : (zf_ans V p1ξ).2 o k = V o k := by
  unfold zf_ans
  show (zp_set V 0 18 0) o k = V o k
  exact (zp_set_ne (Or.inl (zc_nin h9ξ (by decide))))
noncomputable def zf_rfs (V : Nat → Nat → Int) (p1ξ : Int) : Int × (Nat → Nat → Int) := if p1ξ = (-6) then (p1ξ, (zp_set (zp_set V 0 18 p1ξ) 20 (2000 + 4) (zw_add (V 20 (2000 + 4)) 1))) else if p1ξ = (-5) then (p1ξ, (zp_set (zp_set V 0 18 p1ξ) 20 (2000 + 3) (zw_add (V 20 (2000 + 3)) 1))) else if p1ξ = (-4) then (p1ξ, (zp_set V 0 18 p1ξ)) else if p1ξ = (-3) then (p1ξ, (zp_set (zp_set V 0 18 p1ξ) 20 (2000 + 2) (zw_add (V 20 (2000 + 2)) 1))) else if p1ξ = (-2) then (p1ξ, (zp_set (zp_set V 0 18 p1ξ) 20 (2000 + 1) (zw_add (V 20 (2000 + 1)) 1))) else if p1ξ = (-1) then (p1ξ, (zp_set (zp_set V 0 18 p1ξ) 20 (2000 + 0) (zw_add (V 20 (2000 + 0)) 1))) else (p1ξ, (zp_set V 0 18 p1ξ))
noncomputable def zK_rfs : zk_K := (zt_mn 16, prog_1_method_52_code, 2, (Option.some Jvm.ClassFile.FieldType.int), 1, 11, [(2, 12, 0, 0), (0, 0, (-2147483648), 2147483647)], [(some (0, 0, (-2147483648), 2147483647), [])], zUC, (0, 0, 0, 0))
noncomputable def zφ_rfs (A : Nat → Nat) (Y : List (Nat × Nat)) (F : List (Nat × Nat × Nat)) (V : Nat → Nat → Int) : (Nat → Option Nat) → (Nat → Nat → Int) → List Int → Prop := fun P G ps => zMVc A Y F V P G ∧ ps.getD 0 0 = (A 0 : Int) ∧ zMc Y F
noncomputable def zψ_rfs (A : Nat → Nat) (Y : List (Nat × Nat)) (F : List (Nat × Nat × Nat)) (V : Nat → Nat → Int) : (Nat → Option Nat) → (Nat → Nat → Int) → List Int → (Nat → Option Nat) → (Nat → Nat → Int) → Int → Prop := fun P G ps P' G' rn => P' = P ∧ zMVc A Y F (zf_rfs V (ps.getD 1 0)).2 P' G' ∧ rn = (zf_rfs V (ps.getD 1 0)).1
theorem zX_rfs {l : Launch} {w : zk_W} (hWξ : zh_W w) (A : Nat → Nat) (Y : List (Nat × Nat)) (F : List (Nat × Nat × Nat)) (V : Nat → Nat → Int) : zk_metX l w zt_dv zt_TB zK_rfs (zp_A (zφ_rfs A Y F V)) (zp_B (zψ_rfs A Y F V)) ∧ zk_cok w zt_TB zK_rfs := by
  refine zp_methX (cn := "WoundTown") zp_lkallW hWξ (pl := 611) rfl (by decide +kernel) (fun p e R s m args below meth c Q u hx hb hEξ hQξ hU5ξ heffξ hnLξ hokξ hφ => ?_)
  have hwξ := hWξ.1
  obtain ⟨p0ξ, p1ξ, hpsξ, tk0, tk1⟩ := zp_ps2 hokξ
  have hrmξ : zk_Kr (zk_ev (zt_types, zp_lkW, zt_dv, [], [], zp_lcW, zK_rfs)) = zk_Kr zK_rfs := rfl
  rw [hpsξ] at hφ ⊢
  have hφ : zMVc A Y F V u.1 (zp_n u.2.1) ∧ p0ξ = (A 0 : Int) ∧ zMc Y F := hφ
  obtain ⟨⟨M, hMξ, hVξ, hSbξ⟩, rfl, hYFξ⟩ := hφ
  have hYF0ξ := hYFξ
  obtain ⟨hYbξ, hFbξ, hFxξ, -⟩ := hYFξ
  have hi1ξ := zp_int tk1
  show zp_J p l e R s m args below meth c Q w u [] 0 [(0, 2, (A 0 : Int)), (1, 0, p1ξ)] [] u.1 (zp_n u.2.1)
  refine zp_load (pc := 0) hx hb (zd_X11_refused (0, .aload_n 0, 1, 0, []) (List.mem_of_getElem? (i := 0) rfl)) rfl (j := 0) rfl ?_
  refine zp_load (pc := 1) hx hb (zd_X11_refused (1, .iload_n 1, 1, 0, []) (List.mem_of_getElem? (i := 1) rfl)) rfl (j := 1) rfl ?_
  refine zp_putf (pc := 2) hx hb hEξ hwξ heffξ (zd_X11_refused (2, .putfield 438, 3, 0, []) (List.mem_of_getElem? (i := 2) rfl)) (j := 68) rfl rfl rfl (zM_P hMξ (hYbξ _ (List.mem_of_getElem? (i := 0) rfl))) (zp_o0 (by omega) (by omega) (by omega) (by omega)) ?_
  refine zp_load (pc := 5) hx hb (zd_X11_refused (5, .iload_n 1, 1, 0, []) (List.mem_of_getElem? (i := 3) rfl)) rfl (j := 1) rfl ?_
  by_cases hc30ξ : p1ξ = (-6)
  · refine zp_tin (tgt := 96) (off := 90) (pc := 6) hx hb (zd_X11_refused (6, .tableswitch 103 (-6) (-1) #[90, 77, 103, 64, 51, 38], 38, 0, []) (List.mem_of_getElem? (i := 4) rfl)) (by rw [hc30ξ]; decide) (by rw [hc30ξ]; decide) (by rw [hc30ξ]; decide) rfl ?_
    refine zp_load (pc := 96) hx hb (zd_X11_refused (96, .aload_n 0, 1, 0, []) (List.mem_of_getElem? (i := 41) rfl)) rfl (j := 0) rfl ?_
    refine zp_getf (n := (A 20 : Int)) (pc := 97) hx hb hEξ hwξ (zd_X11_refused (97, .getfield 104, 3, 0, []) (List.mem_of_getElem? (i := 42) rfl)) (j := 69) rfl rfl rfl (zM_P hMξ (hYbξ _ (List.mem_of_getElem? (i := 0) rfl))) ((zp_set_ne (Or.inr (by decide))).trans (((zM_G hMξ (hYbξ _ (List.mem_of_getElem? (i := 0) rfl)) 19).trans (zM_F hMξ (hFbξ _ (List.mem_of_getElem? (i := 12) rfl)))))) ?_
    refine zp_const (pc := 100) hx hb (zd_X11_refused (100, .iconst 4, 1, 0, []) (List.mem_of_getElem? (i := 43) rfl)) rfl rfl ?_
    refine zp_dup2 (pc := 101) hx hb (zd_X11_refused (101, .dup2, 1, 0, []) (List.mem_of_getElem? (i := 44) rfl)) (show (0 : Nat) ≠ 1 by decide) (show (2 : Nat) ≠ 1 by decide) ?_
    refine zp_iald (j := 4) (v := (V 20 (2000 + 4))) (pc := 102) hx hb hwξ (zd_X11_refused (102, .iaload, 1, 0, []) (List.mem_of_getElem? (i := 45) rfl)) (show zp_ia 1 57 = some (5, 0, 0, (-2147483648), 2147483647) from rfl) (zM_P hMξ (hYbξ _ (List.mem_of_getElem? (i := 14) rfl))) (by omega) (by omega) ((zp_set_ne (Or.inl (zM_ne hMξ (hYbξ _ (List.mem_of_getElem? (i := 14) rfl)) (hYbξ _ (List.mem_of_getElem? (i := 0) rfl)) (by decide)))).trans (((zM_G hMξ (hYbξ _ (List.mem_of_getElem? (i := 14) rfl)) (2000 + 4)).trans (hVξ 20 (2000 + 4) (by decide))))) (fun hk31ξ => ?_)
    have hk31bξ := zp_int hk31ξ
    clear hk31ξ
    refine zp_const (pc := 103) hx hb (zd_X11_refused (103, .iconst 1, 1, 0, []) (List.mem_of_getElem? (i := 46) rfl)) rfl rfl ?_
    refine zp_binx (o := 0) (n := (zw_add (V 20 (2000 + 4)) 1)) (pc := 104) hx hb (zd_X11_refused (104, .iadd, 1, 0, []) (List.mem_of_getElem? (i := 47) rfl)) rfl (by decide) rfl ?_
    have hw32ξ := zw_addb (V 20 (2000 + 4)) 1
    refine zp_iast (j := 4) (pc := 105) hx hb hwξ heffξ (zd_X11_refused (105, .iastore, 1, 0, []) (List.mem_of_getElem? (i := 48) rfl)) (show zp_ia 1 57 = some (5, 0, 0, (-2147483648), 2147483647) from rfl) (zM_P hMξ (hYbξ _ (List.mem_of_getElem? (i := 14) rfl))) (by omega) (by omega) (zp_o0 (by omega) (by omega) (by omega) (by omega)) rfl ?_
    refine zp_goto (tgt := 109) (pc := 106) hx hb (zd_X11_refused (106, .goto 3, 3, 0, []) (List.mem_of_getElem? (i := 49) rfl)) rfl ?_
    refine zp_load (pc := 109) hx hb (zd_X11_refused (109, .iload_n 1, 1, 0, []) (List.mem_of_getElem? (i := 50) rfl)) rfl (j := 1) rfl ?_
    refine zp_iret (pc := 110) (n := p1ξ) hx hb hEξ hQξ hU5ξ rfl (by decide) (zd_X11_refused (110, .ireturn, 1, 0, []) (List.mem_of_getElem? (i := 51) rfl)) (j := 0) rfl (zp_o0 (by omega) (by omega) (by omega) (by omega)) ?_
    rw [hpsξ]
    refine ⟨rfl, ?_⟩
    have hffξ : zf_rfs V p1ξ = (p1ξ, (zp_set (zp_set V 0 18 p1ξ) 20 (2000 + 4) (zw_add (V 20 (2000 + 4)) 1))) := by
      unfold zf_rfs
      rw [if_pos hc30ξ]
    show zMVc A Y F (zf_rfs V p1ξ).2 u.1 (zp_set (zp_set (zp_n u.2.1) (A 0) 18 p1ξ) (A 20) (2000 + 4) (zw_add (V 20 (2000 + 4)) 1)) ∧ p1ξ = (zf_rfs V p1ξ).1
    rw [hffξ]
    exact ⟨⟨(zp_set (zp_set M 0 18 p1ξ) 20 (2000 + 4) (zw_add (V 20 (2000 + 4)) 1)), (zM_setE (zM_set hMξ (hYbξ _ (List.mem_of_getElem? (i := 0) rfl)) (zFx hFxξ (o := 0) (k := 18) (by decide) (by decide))) (hYbξ _ (List.mem_of_getElem? (i := 14) rfl))), (zV_set (zV_set hVξ)), trivial⟩, rfl⟩
  by_cases hc33ξ : p1ξ = (-5)
  · refine zp_tin (tgt := 83) (off := 77) (pc := 6) hx hb (zd_X11_refused (6, .tableswitch 103 (-6) (-1) #[90, 77, 103, 64, 51, 38], 38, 0, []) (List.mem_of_getElem? (i := 4) rfl)) (by rw [hc33ξ]; decide) (by rw [hc33ξ]; decide) (by rw [hc33ξ]; decide) rfl ?_
    refine zp_load (pc := 83) hx hb (zd_X11_refused (83, .aload_n 0, 1, 0, []) (List.mem_of_getElem? (i := 32) rfl)) rfl (j := 0) rfl ?_
    refine zp_getf (n := (A 20 : Int)) (pc := 84) hx hb hEξ hwξ (zd_X11_refused (84, .getfield 104, 3, 0, []) (List.mem_of_getElem? (i := 33) rfl)) (j := 69) rfl rfl rfl (zM_P hMξ (hYbξ _ (List.mem_of_getElem? (i := 0) rfl))) ((zp_set_ne (Or.inr (by decide))).trans (((zM_G hMξ (hYbξ _ (List.mem_of_getElem? (i := 0) rfl)) 19).trans (zM_F hMξ (hFbξ _ (List.mem_of_getElem? (i := 12) rfl)))))) ?_
    refine zp_const (pc := 87) hx hb (zd_X11_refused (87, .iconst 3, 1, 0, []) (List.mem_of_getElem? (i := 34) rfl)) rfl rfl ?_
    refine zp_dup2 (pc := 88) hx hb (zd_X11_refused (88, .dup2, 1, 0, []) (List.mem_of_getElem? (i := 35) rfl)) (show (0 : Nat) ≠ 1 by decide) (show (2 : Nat) ≠ 1 by decide) ?_
    refine zp_iald (j := 3) (v := (V 20 (2000 + 3))) (pc := 89) hx hb hwξ (zd_X11_refused (89, .iaload, 1, 0, []) (List.mem_of_getElem? (i := 36) rfl)) (show zp_ia 1 57 = some (5, 0, 0, (-2147483648), 2147483647) from rfl) (zM_P hMξ (hYbξ _ (List.mem_of_getElem? (i := 14) rfl))) (by omega) (by omega) ((zp_set_ne (Or.inl (zM_ne hMξ (hYbξ _ (List.mem_of_getElem? (i := 14) rfl)) (hYbξ _ (List.mem_of_getElem? (i := 0) rfl)) (by decide)))).trans (((zM_G hMξ (hYbξ _ (List.mem_of_getElem? (i := 14) rfl)) (2000 + 3)).trans (hVξ 20 (2000 + 3) (by decide))))) (fun hk34ξ => ?_)
    have hk34bξ := zp_int hk34ξ
    clear hk34ξ
    refine zp_const (pc := 90) hx hb (zd_X11_refused (90, .iconst 1, 1, 0, []) (List.mem_of_getElem? (i := 37) rfl)) rfl rfl ?_
    refine zp_binx (o := 0) (n := (zw_add (V 20 (2000 + 3)) 1)) (pc := 91) hx hb (zd_X11_refused (91, .iadd, 1, 0, []) (List.mem_of_getElem? (i := 38) rfl)) rfl (by decide) rfl ?_
    have hw35ξ := zw_addb (V 20 (2000 + 3)) 1
    refine zp_iast (j := 3) (pc := 92) hx hb hwξ heffξ (zd_X11_refused (92, .iastore, 1, 0, []) (List.mem_of_getElem? (i := 39) rfl)) (show zp_ia 1 57 = some (5, 0, 0, (-2147483648), 2147483647) from rfl) (zM_P hMξ (hYbξ _ (List.mem_of_getElem? (i := 14) rfl))) (by omega) (by omega) (zp_o0 (by omega) (by omega) (by omega) (by omega)) rfl ?_
    refine zp_goto (tgt := 109) (pc := 93) hx hb (zd_X11_refused (93, .goto 16, 3, 0, []) (List.mem_of_getElem? (i := 40) rfl)) rfl ?_
    refine zp_load (pc := 109) hx hb (zd_X11_refused (109, .iload_n 1, 1, 0, []) (List.mem_of_getElem? (i := 50) rfl)) rfl (j := 1) rfl ?_
    refine zp_iret (pc := 110) (n := p1ξ) hx hb hEξ hQξ hU5ξ rfl (by decide) (zd_X11_refused (110, .ireturn, 1, 0, []) (List.mem_of_getElem? (i := 51) rfl)) (j := 0) rfl (zp_o0 (by omega) (by omega) (by omega) (by omega)) ?_
    rw [hpsξ]
    refine ⟨rfl, ?_⟩
    have hffξ : zf_rfs V p1ξ = (p1ξ, (zp_set (zp_set V 0 18 p1ξ) 20 (2000 + 3) (zw_add (V 20 (2000 + 3)) 1))) := by
      unfold zf_rfs
      rw [if_neg hc30ξ, if_pos hc33ξ]
    show zMVc A Y F (zf_rfs V p1ξ).2 u.1 (zp_set (zp_set (zp_n u.2.1) (A 0) 18 p1ξ) (A 20) (2000 + 3) (zw_add (V 20 (2000 + 3)) 1)) ∧ p1ξ = (zf_rfs V p1ξ).1
    rw [hffξ]
    exact ⟨⟨(zp_set (zp_set M 0 18 p1ξ) 20 (2000 + 3) (zw_add (V 20 (2000 + 3)) 1)), (zM_setE (zM_set hMξ (hYbξ _ (List.mem_of_getElem? (i := 0) rfl)) (zFx hFxξ (o := 0) (k := 18) (by decide) (by decide))) (hYbξ _ (List.mem_of_getElem? (i := 14) rfl))), (zV_set (zV_set hVξ)), trivial⟩, rfl⟩
  by_cases hc36ξ : p1ξ = (-4)
  · refine zp_tin (tgt := 109) (off := 103) (pc := 6) hx hb (zd_X11_refused (6, .tableswitch 103 (-6) (-1) #[90, 77, 103, 64, 51, 38], 38, 0, []) (List.mem_of_getElem? (i := 4) rfl)) (by rw [hc36ξ]; decide) (by rw [hc36ξ]; decide) (by rw [hc36ξ]; decide) rfl ?_
    refine zp_load (pc := 109) hx hb (zd_X11_refused (109, .iload_n 1, 1, 0, []) (List.mem_of_getElem? (i := 50) rfl)) rfl (j := 1) rfl ?_
    refine zp_iret (pc := 110) (n := p1ξ) hx hb hEξ hQξ hU5ξ rfl (by decide) (zd_X11_refused (110, .ireturn, 1, 0, []) (List.mem_of_getElem? (i := 51) rfl)) (j := 0) rfl (zp_o0 (by omega) (by omega) (by omega) (by omega)) ?_
    rw [hpsξ]
    refine ⟨rfl, ?_⟩
    have hffξ : zf_rfs V p1ξ = (p1ξ, (zp_set V 0 18 p1ξ)) := by
      unfold zf_rfs
      rw [if_neg hc30ξ, if_neg hc33ξ, if_pos hc36ξ]
    show zMVc A Y F (zf_rfs V p1ξ).2 u.1 (zp_set (zp_n u.2.1) (A 0) 18 p1ξ) ∧ p1ξ = (zf_rfs V p1ξ).1
    rw [hffξ]
    exact ⟨⟨(zp_set M 0 18 p1ξ), (zM_set hMξ (hYbξ _ (List.mem_of_getElem? (i := 0) rfl)) (zFx hFxξ (o := 0) (k := 18) (by decide) (by decide))), (zV_set hVξ), trivial⟩, rfl⟩
  by_cases hc37ξ : p1ξ = (-3)
  · refine zp_tin (tgt := 70) (off := 64) (pc := 6) hx hb (zd_X11_refused (6, .tableswitch 103 (-6) (-1) #[90, 77, 103, 64, 51, 38], 38, 0, []) (List.mem_of_getElem? (i := 4) rfl)) (by rw [hc37ξ]; decide) (by rw [hc37ξ]; decide) (by rw [hc37ξ]; decide) rfl ?_
    refine zp_load (pc := 70) hx hb (zd_X11_refused (70, .aload_n 0, 1, 0, []) (List.mem_of_getElem? (i := 23) rfl)) rfl (j := 0) rfl ?_
    refine zp_getf (n := (A 20 : Int)) (pc := 71) hx hb hEξ hwξ (zd_X11_refused (71, .getfield 104, 3, 0, []) (List.mem_of_getElem? (i := 24) rfl)) (j := 69) rfl rfl rfl (zM_P hMξ (hYbξ _ (List.mem_of_getElem? (i := 0) rfl))) ((zp_set_ne (Or.inr (by decide))).trans (((zM_G hMξ (hYbξ _ (List.mem_of_getElem? (i := 0) rfl)) 19).trans (zM_F hMξ (hFbξ _ (List.mem_of_getElem? (i := 12) rfl)))))) ?_
    refine zp_const (pc := 74) hx hb (zd_X11_refused (74, .iconst 2, 1, 0, []) (List.mem_of_getElem? (i := 25) rfl)) rfl rfl ?_
    refine zp_dup2 (pc := 75) hx hb (zd_X11_refused (75, .dup2, 1, 0, []) (List.mem_of_getElem? (i := 26) rfl)) (show (0 : Nat) ≠ 1 by decide) (show (2 : Nat) ≠ 1 by decide) ?_
    refine zp_iald (j := 2) (v := (V 20 (2000 + 2))) (pc := 76) hx hb hwξ (zd_X11_refused (76, .iaload, 1, 0, []) (List.mem_of_getElem? (i := 27) rfl)) (show zp_ia 1 57 = some (5, 0, 0, (-2147483648), 2147483647) from rfl) (zM_P hMξ (hYbξ _ (List.mem_of_getElem? (i := 14) rfl))) (by omega) (by omega) ((zp_set_ne (Or.inl (zM_ne hMξ (hYbξ _ (List.mem_of_getElem? (i := 14) rfl)) (hYbξ _ (List.mem_of_getElem? (i := 0) rfl)) (by decide)))).trans (((zM_G hMξ (hYbξ _ (List.mem_of_getElem? (i := 14) rfl)) (2000 + 2)).trans (hVξ 20 (2000 + 2) (by decide))))) (fun hk38ξ => ?_)
    have hk38bξ := zp_int hk38ξ
    clear hk38ξ
    refine zp_const (pc := 77) hx hb (zd_X11_refused (77, .iconst 1, 1, 0, []) (List.mem_of_getElem? (i := 28) rfl)) rfl rfl ?_
    refine zp_binx (o := 0) (n := (zw_add (V 20 (2000 + 2)) 1)) (pc := 78) hx hb (zd_X11_refused (78, .iadd, 1, 0, []) (List.mem_of_getElem? (i := 29) rfl)) rfl (by decide) rfl ?_
    have hw39ξ := zw_addb (V 20 (2000 + 2)) 1
    refine zp_iast (j := 2) (pc := 79) hx hb hwξ heffξ (zd_X11_refused (79, .iastore, 1, 0, []) (List.mem_of_getElem? (i := 30) rfl)) (show zp_ia 1 57 = some (5, 0, 0, (-2147483648), 2147483647) from rfl) (zM_P hMξ (hYbξ _ (List.mem_of_getElem? (i := 14) rfl))) (by omega) (by omega) (zp_o0 (by omega) (by omega) (by omega) (by omega)) rfl ?_
    refine zp_goto (tgt := 109) (pc := 80) hx hb (zd_X11_refused (80, .goto 29, 3, 0, []) (List.mem_of_getElem? (i := 31) rfl)) rfl ?_
    refine zp_load (pc := 109) hx hb (zd_X11_refused (109, .iload_n 1, 1, 0, []) (List.mem_of_getElem? (i := 50) rfl)) rfl (j := 1) rfl ?_
    refine zp_iret (pc := 110) (n := p1ξ) hx hb hEξ hQξ hU5ξ rfl (by decide) (zd_X11_refused (110, .ireturn, 1, 0, []) (List.mem_of_getElem? (i := 51) rfl)) (j := 0) rfl (zp_o0 (by omega) (by omega) (by omega) (by omega)) ?_
    rw [hpsξ]
    refine ⟨rfl, ?_⟩
    have hffξ : zf_rfs V p1ξ = (p1ξ, (zp_set (zp_set V 0 18 p1ξ) 20 (2000 + 2) (zw_add (V 20 (2000 + 2)) 1))) := by
      unfold zf_rfs
      rw [if_neg hc30ξ, if_neg hc33ξ, if_neg hc36ξ, if_pos hc37ξ]
    show zMVc A Y F (zf_rfs V p1ξ).2 u.1 (zp_set (zp_set (zp_n u.2.1) (A 0) 18 p1ξ) (A 20) (2000 + 2) (zw_add (V 20 (2000 + 2)) 1)) ∧ p1ξ = (zf_rfs V p1ξ).1
    rw [hffξ]
    exact ⟨⟨(zp_set (zp_set M 0 18 p1ξ) 20 (2000 + 2) (zw_add (V 20 (2000 + 2)) 1)), (zM_setE (zM_set hMξ (hYbξ _ (List.mem_of_getElem? (i := 0) rfl)) (zFx hFxξ (o := 0) (k := 18) (by decide) (by decide))) (hYbξ _ (List.mem_of_getElem? (i := 14) rfl))), (zV_set (zV_set hVξ)), trivial⟩, rfl⟩
  by_cases hc40ξ : p1ξ = (-2)
  · refine zp_tin (tgt := 57) (off := 51) (pc := 6) hx hb (zd_X11_refused (6, .tableswitch 103 (-6) (-1) #[90, 77, 103, 64, 51, 38], 38, 0, []) (List.mem_of_getElem? (i := 4) rfl)) (by rw [hc40ξ]; decide) (by rw [hc40ξ]; decide) (by rw [hc40ξ]; decide) rfl ?_
    refine zp_load (pc := 57) hx hb (zd_X11_refused (57, .aload_n 0, 1, 0, []) (List.mem_of_getElem? (i := 14) rfl)) rfl (j := 0) rfl ?_
    refine zp_getf (n := (A 20 : Int)) (pc := 58) hx hb hEξ hwξ (zd_X11_refused (58, .getfield 104, 3, 0, []) (List.mem_of_getElem? (i := 15) rfl)) (j := 69) rfl rfl rfl (zM_P hMξ (hYbξ _ (List.mem_of_getElem? (i := 0) rfl))) ((zp_set_ne (Or.inr (by decide))).trans (((zM_G hMξ (hYbξ _ (List.mem_of_getElem? (i := 0) rfl)) 19).trans (zM_F hMξ (hFbξ _ (List.mem_of_getElem? (i := 12) rfl)))))) ?_
    refine zp_const (pc := 61) hx hb (zd_X11_refused (61, .iconst 1, 1, 0, []) (List.mem_of_getElem? (i := 16) rfl)) rfl rfl ?_
    refine zp_dup2 (pc := 62) hx hb (zd_X11_refused (62, .dup2, 1, 0, []) (List.mem_of_getElem? (i := 17) rfl)) (show (0 : Nat) ≠ 1 by decide) (show (2 : Nat) ≠ 1 by decide) ?_
    refine zp_iald (j := 1) (v := (V 20 (2000 + 1))) (pc := 63) hx hb hwξ (zd_X11_refused (63, .iaload, 1, 0, []) (List.mem_of_getElem? (i := 18) rfl)) (show zp_ia 1 57 = some (5, 0, 0, (-2147483648), 2147483647) from rfl) (zM_P hMξ (hYbξ _ (List.mem_of_getElem? (i := 14) rfl))) (by omega) (by omega) ((zp_set_ne (Or.inl (zM_ne hMξ (hYbξ _ (List.mem_of_getElem? (i := 14) rfl)) (hYbξ _ (List.mem_of_getElem? (i := 0) rfl)) (by decide)))).trans (((zM_G hMξ (hYbξ _ (List.mem_of_getElem? (i := 14) rfl)) (2000 + 1)).trans (hVξ 20 (2000 + 1) (by decide))))) (fun hk41ξ => ?_)
    have hk41bξ := zp_int hk41ξ
    clear hk41ξ
    refine zp_const (pc := 64) hx hb (zd_X11_refused (64, .iconst 1, 1, 0, []) (List.mem_of_getElem? (i := 19) rfl)) rfl rfl ?_
    refine zp_binx (o := 0) (n := (zw_add (V 20 (2000 + 1)) 1)) (pc := 65) hx hb (zd_X11_refused (65, .iadd, 1, 0, []) (List.mem_of_getElem? (i := 20) rfl)) rfl (by decide) rfl ?_
    have hw42ξ := zw_addb (V 20 (2000 + 1)) 1
    refine zp_iast (j := 1) (pc := 66) hx hb hwξ heffξ (zd_X11_refused (66, .iastore, 1, 0, []) (List.mem_of_getElem? (i := 21) rfl)) (show zp_ia 1 57 = some (5, 0, 0, (-2147483648), 2147483647) from rfl) (zM_P hMξ (hYbξ _ (List.mem_of_getElem? (i := 14) rfl))) (by omega) (by omega) (zp_o0 (by omega) (by omega) (by omega) (by omega)) rfl ?_
    refine zp_goto (tgt := 109) (pc := 67) hx hb (zd_X11_refused (67, .goto 42, 3, 0, []) (List.mem_of_getElem? (i := 22) rfl)) rfl ?_
    refine zp_load (pc := 109) hx hb (zd_X11_refused (109, .iload_n 1, 1, 0, []) (List.mem_of_getElem? (i := 50) rfl)) rfl (j := 1) rfl ?_
    refine zp_iret (pc := 110) (n := p1ξ) hx hb hEξ hQξ hU5ξ rfl (by decide) (zd_X11_refused (110, .ireturn, 1, 0, []) (List.mem_of_getElem? (i := 51) rfl)) (j := 0) rfl (zp_o0 (by omega) (by omega) (by omega) (by omega)) ?_
    rw [hpsξ]
    refine ⟨rfl, ?_⟩
    have hffξ : zf_rfs V p1ξ = (p1ξ, (zp_set (zp_set V 0 18 p1ξ) 20 (2000 + 1) (zw_add (V 20 (2000 + 1)) 1))) := by
      unfold zf_rfs
      rw [if_neg hc30ξ, if_neg hc33ξ, if_neg hc36ξ, if_neg hc37ξ, if_pos hc40ξ]
    show zMVc A Y F (zf_rfs V p1ξ).2 u.1 (zp_set (zp_set (zp_n u.2.1) (A 0) 18 p1ξ) (A 20) (2000 + 1) (zw_add (V 20 (2000 + 1)) 1)) ∧ p1ξ = (zf_rfs V p1ξ).1
    rw [hffξ]
    exact ⟨⟨(zp_set (zp_set M 0 18 p1ξ) 20 (2000 + 1) (zw_add (V 20 (2000 + 1)) 1)), (zM_setE (zM_set hMξ (hYbξ _ (List.mem_of_getElem? (i := 0) rfl)) (zFx hFxξ (o := 0) (k := 18) (by decide) (by decide))) (hYbξ _ (List.mem_of_getElem? (i := 14) rfl))), (zV_set (zV_set hVξ)), trivial⟩, rfl⟩
  by_cases hc43ξ : p1ξ = (-1)
  · refine zp_tin (tgt := 44) (off := 38) (pc := 6) hx hb (zd_X11_refused (6, .tableswitch 103 (-6) (-1) #[90, 77, 103, 64, 51, 38], 38, 0, []) (List.mem_of_getElem? (i := 4) rfl)) (by rw [hc43ξ]; decide) (by rw [hc43ξ]; decide) (by rw [hc43ξ]; decide) rfl ?_
    refine zp_load (pc := 44) hx hb (zd_X11_refused (44, .aload_n 0, 1, 0, []) (List.mem_of_getElem? (i := 5) rfl)) rfl (j := 0) rfl ?_
    refine zp_getf (n := (A 20 : Int)) (pc := 45) hx hb hEξ hwξ (zd_X11_refused (45, .getfield 104, 3, 0, []) (List.mem_of_getElem? (i := 6) rfl)) (j := 69) rfl rfl rfl (zM_P hMξ (hYbξ _ (List.mem_of_getElem? (i := 0) rfl))) ((zp_set_ne (Or.inr (by decide))).trans (((zM_G hMξ (hYbξ _ (List.mem_of_getElem? (i := 0) rfl)) 19).trans (zM_F hMξ (hFbξ _ (List.mem_of_getElem? (i := 12) rfl)))))) ?_
    refine zp_const (pc := 48) hx hb (zd_X11_refused (48, .iconst 0, 1, 0, []) (List.mem_of_getElem? (i := 7) rfl)) rfl rfl ?_
    refine zp_dup2 (pc := 49) hx hb (zd_X11_refused (49, .dup2, 1, 0, []) (List.mem_of_getElem? (i := 8) rfl)) (show (0 : Nat) ≠ 1 by decide) (show (2 : Nat) ≠ 1 by decide) ?_
    refine zp_iald (j := 0) (v := (V 20 (2000 + 0))) (pc := 50) hx hb hwξ (zd_X11_refused (50, .iaload, 1, 0, []) (List.mem_of_getElem? (i := 9) rfl)) (show zp_ia 1 57 = some (5, 0, 0, (-2147483648), 2147483647) from rfl) (zM_P hMξ (hYbξ _ (List.mem_of_getElem? (i := 14) rfl))) (by omega) (by omega) ((zp_set_ne (Or.inl (zM_ne hMξ (hYbξ _ (List.mem_of_getElem? (i := 14) rfl)) (hYbξ _ (List.mem_of_getElem? (i := 0) rfl)) (by decide)))).trans (((zM_G hMξ (hYbξ _ (List.mem_of_getElem? (i := 14) rfl)) (2000 + 0)).trans (hVξ 20 (2000 + 0) (by decide))))) (fun hk44ξ => ?_)
    have hk44bξ := zp_int hk44ξ
    clear hk44ξ
    refine zp_const (pc := 51) hx hb (zd_X11_refused (51, .iconst 1, 1, 0, []) (List.mem_of_getElem? (i := 10) rfl)) rfl rfl ?_
    refine zp_binx (o := 0) (n := (zw_add (V 20 (2000 + 0)) 1)) (pc := 52) hx hb (zd_X11_refused (52, .iadd, 1, 0, []) (List.mem_of_getElem? (i := 11) rfl)) rfl (by decide) rfl ?_
    have hw45ξ := zw_addb (V 20 (2000 + 0)) 1
    refine zp_iast (j := 0) (pc := 53) hx hb hwξ heffξ (zd_X11_refused (53, .iastore, 1, 0, []) (List.mem_of_getElem? (i := 12) rfl)) (show zp_ia 1 57 = some (5, 0, 0, (-2147483648), 2147483647) from rfl) (zM_P hMξ (hYbξ _ (List.mem_of_getElem? (i := 14) rfl))) (by omega) (by omega) (zp_o0 (by omega) (by omega) (by omega) (by omega)) rfl ?_
    refine zp_goto (tgt := 109) (pc := 54) hx hb (zd_X11_refused (54, .goto 55, 3, 0, []) (List.mem_of_getElem? (i := 13) rfl)) rfl ?_
    refine zp_load (pc := 109) hx hb (zd_X11_refused (109, .iload_n 1, 1, 0, []) (List.mem_of_getElem? (i := 50) rfl)) rfl (j := 1) rfl ?_
    refine zp_iret (pc := 110) (n := p1ξ) hx hb hEξ hQξ hU5ξ rfl (by decide) (zd_X11_refused (110, .ireturn, 1, 0, []) (List.mem_of_getElem? (i := 51) rfl)) (j := 0) rfl (zp_o0 (by omega) (by omega) (by omega) (by omega)) ?_
    rw [hpsξ]
    refine ⟨rfl, ?_⟩
    have hffξ : zf_rfs V p1ξ = (p1ξ, (zp_set (zp_set V 0 18 p1ξ) 20 (2000 + 0) (zw_add (V 20 (2000 + 0)) 1))) := by
      unfold zf_rfs
      rw [if_neg hc30ξ, if_neg hc33ξ, if_neg hc36ξ, if_neg hc37ξ, if_neg hc40ξ, if_pos hc43ξ]
    show zMVc A Y F (zf_rfs V p1ξ).2 u.1 (zp_set (zp_set (zp_n u.2.1) (A 0) 18 p1ξ) (A 20) (2000 + 0) (zw_add (V 20 (2000 + 0)) 1)) ∧ p1ξ = (zf_rfs V p1ξ).1
    rw [hffξ]
    exact ⟨⟨(zp_set (zp_set M 0 18 p1ξ) 20 (2000 + 0) (zw_add (V 20 (2000 + 0)) 1)), (zM_setE (zM_set hMξ (hYbξ _ (List.mem_of_getElem? (i := 0) rfl)) (zFx hFxξ (o := 0) (k := 18) (by decide) (by decide))) (hYbξ _ (List.mem_of_getElem? (i := 14) rfl))), (zV_set (zV_set hVξ)), trivial⟩, rfl⟩
  refine zp_tout (tgt := 109) (pc := 6) hx hb (zd_X11_refused (6, .tableswitch 103 (-6) (-1) #[90, 77, 103, 64, 51, 38], 38, 0, []) (List.mem_of_getElem? (i := 4) rfl)) (by omega) rfl ?_
  refine zp_load (pc := 109) hx hb (zd_X11_refused (109, .iload_n 1, 1, 0, []) (List.mem_of_getElem? (i := 50) rfl)) rfl (j := 1) rfl ?_
  refine zp_iret (pc := 110) (n := p1ξ) hx hb hEξ hQξ hU5ξ rfl (by decide) (zd_X11_refused (110, .ireturn, 1, 0, []) (List.mem_of_getElem? (i := 51) rfl)) (j := 0) rfl (zp_o0 (by omega) (by omega) (by omega) (by omega)) ?_
  rw [hpsξ]
  refine ⟨rfl, ?_⟩
  have hffξ : zf_rfs V p1ξ = (p1ξ, (zp_set V 0 18 p1ξ)) := by
    unfold zf_rfs
    rw [if_neg hc30ξ, if_neg hc33ξ, if_neg hc36ξ, if_neg hc37ξ, if_neg hc40ξ, if_neg hc43ξ]
  show zMVc A Y F (zf_rfs V p1ξ).2 u.1 (zp_set (zp_n u.2.1) (A 0) 18 p1ξ) ∧ p1ξ = (zf_rfs V p1ξ).1
  rw [hffξ]
  exact ⟨⟨(zp_set M 0 18 p1ξ), (zM_set hMξ (hYbξ _ (List.mem_of_getElem? (i := 0) rfl)) (zFx hFxξ (o := 0) (k := 18) (by decide) (by decide))), (zV_set hVξ), trivial⟩, rfl⟩
theorem zf_rfs_f {V : Nat → Nat → Int} {p1ξ : Int} {o k : Nat} (h9ξ : o ∉ ([0, 20] : List Nat)) : (zf_rfs V p1ξ).2 o k = V o k := by
  unfold zf_rfs
  by_cases hd2ξ : p1ξ = (-6)
  · rw [if_pos hd2ξ]
    show (zp_set (zp_set V 0 18 p1ξ) 20 (2000 + 4) (zw_add (V 20 (2000 + 4)) 1)) o k = V o k
    exact ((zp_set_ne (Or.inl (zc_nin h9ξ (by decide)))).trans (zp_set_ne (Or.inl (zc_nin h9ξ (by decide)))))
  · rw [if_neg hd2ξ]
    by_cases hd4ξ : p1ξ = (-5)
    · rw [if_pos hd4ξ]
      show (zp_set (zp_set V 0 18 p1ξ) 20 (2000 + 3) (zw_add (V 20 (2000 + 3)) 1)) o k = V o k
      exact ((zp_set_ne (Or.inl (zc_nin h9ξ (by decide)))).trans (zp_set_ne (Or.inl (zc_nin h9ξ (by decide)))))
    · rw [if_neg hd4ξ]
      by_cases hd6ξ : p1ξ = (-4)
      · rw [if_pos hd6ξ]
        show (zp_set V 0 18 p1ξ) o k = V o k
        exact (zp_set_ne (Or.inl (zc_nin h9ξ (by decide))))
      · rw [if_neg hd6ξ]
        by_cases hd8ξ : p1ξ = (-3)
        · rw [if_pos hd8ξ]
          show (zp_set (zp_set V 0 18 p1ξ) 20 (2000 + 2) (zw_add (V 20 (2000 + 2)) 1)) o k = V o k
          exact ((zp_set_ne (Or.inl (zc_nin h9ξ (by decide)))).trans (zp_set_ne (Or.inl (zc_nin h9ξ (by decide)))))
        · rw [if_neg hd8ξ]
          by_cases hd10ξ : p1ξ = (-2)
          · rw [if_pos hd10ξ]
            show (zp_set (zp_set V 0 18 p1ξ) 20 (2000 + 1) (zw_add (V 20 (2000 + 1)) 1)) o k = V o k
            exact ((zp_set_ne (Or.inl (zc_nin h9ξ (by decide)))).trans (zp_set_ne (Or.inl (zc_nin h9ξ (by decide)))))
          · rw [if_neg hd10ξ]
            by_cases hd12ξ : p1ξ = (-1)
            · rw [if_pos hd12ξ]
              show (zp_set (zp_set V 0 18 p1ξ) 20 (2000 + 0) (zw_add (V 20 (2000 + 0)) 1)) o k = V o k
              exact ((zp_set_ne (Or.inl (zc_nin h9ξ (by decide)))).trans (zp_set_ne (Or.inl (zc_nin h9ξ (by decide)))))
            · rw [if_neg hd12ξ]
              show (zp_set V 0 18 p1ξ) o k = V o k
              exact (zp_set_ne (Or.inl (zc_nin h9ξ (by decide))))
noncomputable def zf_stc (V : Nat → Nat → Int) (p1ξ : Int) : Int × (Nat → Nat → Int) := if 0 ≤ p1ξ then (((zf_ans V p1ξ).1), (zf_ans V p1ξ).2) else (((zf_rfs V p1ξ).1), (zf_rfs V p1ξ).2)
noncomputable def zK_stc : zk_K := (zt_mn 121, prog_1_method_53_code, 2, (Option.some Jvm.ClassFile.FieldType.int), 1, 11, [(2, 12, 0, 0), (0, 0, (-2147483648), 2147483647)], [(some (0, 0, (-2147483648), 2147483647), [])], zUC, (1, 60, 0, 0))
noncomputable def zφ_stc (A : Nat → Nat) (Y : List (Nat × Nat)) (F : List (Nat × Nat × Nat)) (V : Nat → Nat → Int) : (Nat → Option Nat) → (Nat → Nat → Int) → List Int → Prop := fun P G ps => zMVc A Y F V P G ∧ ps.getD 0 0 = (A 0 : Int) ∧ zMc Y F
noncomputable def zψ_stc (A : Nat → Nat) (Y : List (Nat × Nat)) (F : List (Nat × Nat × Nat)) (V : Nat → Nat → Int) : (Nat → Option Nat) → (Nat → Nat → Int) → List Int → (Nat → Option Nat) → (Nat → Nat → Int) → Int → Prop := fun P G ps P' G' rn => P' = P ∧ zMVc A Y F (zf_stc V (ps.getD 1 0)).2 P' G' ∧ rn = (zf_stc V (ps.getD 1 0)).1
theorem zX_stc {l : Launch} {w : zk_W} (hWξ : zh_W w) (A : Nat → Nat) (Y : List (Nat × Nat)) (F : List (Nat × Nat × Nat)) (V : Nat → Nat → Int) : zk_metX l w zt_dv zt_TB zK_stc (zp_A (zφ_stc A Y F V)) (zp_B (zψ_stc A Y F V)) ∧ zk_cok w zt_TB zK_stc := by
  refine zp_methX (cn := "WoundTown") zp_lkallW hWξ (pl := 1066) rfl (by decide +kernel) (fun p e R s m args below meth c Q u hx hb hEξ hQξ hU5ξ heffξ hnLξ hokξ hφ => ?_)
  have hwξ := hWξ.1
  obtain ⟨p0ξ, p1ξ, hpsξ, tk0, tk1⟩ := zp_ps2 hokξ
  have hrmξ : zk_Kr (zk_ev (zt_types, zp_lkW, zt_dv, [], [], zp_lcW, zK_stc)) = zk_Kr zK_stc := rfl
  rw [hpsξ] at hφ ⊢
  have hφ : zMVc A Y F V u.1 (zp_n u.2.1) ∧ p0ξ = (A 0 : Int) ∧ zMc Y F := hφ
  obtain ⟨⟨M, hMξ, hVξ, hSbξ⟩, rfl, hYFξ⟩ := hφ
  have hYF0ξ := hYFξ
  obtain ⟨hYbξ, hFbξ, hFxξ, -⟩ := hYFξ
  have hi1ξ := zp_int tk1
  show zp_J p l e R s m args below meth c Q w u [] 0 [(0, 2, (A 0 : Int)), (1, 0, p1ξ)] [] u.1 (zp_n u.2.1)
  refine zp_load (pc := 0) hx hb (zd_X11_settled (0, .iload_n 1, 1, 0, []) (List.mem_of_getElem? (i := 0) rfl)) rfl (j := 1) rfl ?_
  refine zp_if (pc := 1) (tgt := 12) hx hb (zd_X11_settled (1, .ifCond .ge 11, 3, 0, []) (List.mem_of_getElem? (i := 1) rfl)) rfl (fun (hc46ξ : 0 ≤ p1ξ) => ?_) (fun (hc46ξ : ¬ (0 ≤ p1ξ)) => ?_)
  · refine zp_load (pc := 12) hx hb (zd_X11_settled (12, .aload_n 0, 1, 0, []) (List.mem_of_getElem? (i := 6) rfl)) rfl (j := 0) rfl ?_
    refine zp_load (pc := 13) hx hb (zd_X11_settled (13, .iload_n 1, 1, 0, []) (List.mem_of_getElem? (i := 7) rfl)) rfl (j := 1) rfl ?_
    refine zp_call (pc := 14) (how := 0) (idx := 118) (mi := 17) (S := []) hx hb hEξ hwξ heffξ hrmξ (zX_ans hWξ A Y F V) rfl (j := 12) rfl rfl (by decide +kernel) (zd_X11_settled (14, .invokevirtual 118, 3, 0, []) (List.mem_of_getElem? (i := 8) rfl)) [(A 0 : Int), p1ξ] rfl ⟨zp_o2 (zM_P hMξ (hYbξ _ (List.mem_of_getElem? (i := 0) rfl))), zp_o0 (by omega) (by omega) (by omega) (by omega), trivial⟩ (Nat.le_of_ble_eq_true rfl) ⟨⟨M, hMξ, hVξ, trivial⟩, rfl, hYF0ξ⟩ (fun al halξ rna47ξ Pa47 Ga47 hexta47ξ hfra47ξ hoka47ξ hcsa47ξ hpsia47ξ => ?_)
    obtain rfl := List.mem_singleton.mp halξ
    have hra47ξ := zp_int (hoka47ξ _ rfl).1
    obtain ⟨hPea47ξ, ⟨Ma47, hMa47ξ, hVa47ξ, hSba47ξ⟩, hta47ξ⟩ := hpsia47ξ
    subst hPea47ξ
    clear hexta47ξ hfra47ξ hcsa47ξ hoka47ξ
    have hVa47ξ : ∀ o k, zNc o → Ma47 o k = (zf_ans V p1ξ).2 o k := hVa47ξ
    have hta47ξ : rna47ξ = ((zf_ans V p1ξ).1) := hta47ξ
    have hta47ξ := (Eq.symm hta47ξ)
    subst hta47ξ
    refine zp_iret (pc := 17) (n := ((zf_ans V p1ξ).1)) hx hb hEξ hQξ hU5ξ rfl (by decide) (zd_X11_settled (17, .ireturn, 1, 0, []) (List.mem_of_getElem? (i := 9) rfl)) (j := 0) rfl (zp_o0 (by omega) (by omega) (by omega) (by omega)) ?_
    rw [hpsξ]
    refine ⟨rfl, ?_⟩
    have hffξ : zf_stc V p1ξ = (((zf_ans V p1ξ).1), (zf_ans V p1ξ).2) := by
      unfold zf_stc
      rw [if_pos hc46ξ]
    show zMVc A Y F (zf_stc V p1ξ).2 u.1 Ga47 ∧ ((zf_ans V p1ξ).1) = (zf_stc V p1ξ).1
    rw [hffξ]
    exact ⟨⟨Ma47, hMa47ξ, hVa47ξ, trivial⟩, rfl⟩
  · refine zp_load (pc := 4) hx hb (zd_X11_settled (4, .aload_n 0, 1, 0, []) (List.mem_of_getElem? (i := 2) rfl)) rfl (j := 0) rfl ?_
    refine zp_load (pc := 5) hx hb (zd_X11_settled (5, .iload_n 1, 1, 0, []) (List.mem_of_getElem? (i := 3) rfl)) rfl (j := 1) rfl ?_
    refine zp_call (pc := 6) (how := 0) (idx := 111) (mi := 16) (S := []) hx hb hEξ hwξ heffξ hrmξ (zX_rfs hWξ A Y F V) rfl (j := 11) rfl rfl (by decide +kernel) (zd_X11_settled (6, .invokevirtual 111, 3, 0, []) (List.mem_of_getElem? (i := 4) rfl)) [(A 0 : Int), p1ξ] rfl ⟨zp_o2 (zM_P hMξ (hYbξ _ (List.mem_of_getElem? (i := 0) rfl))), zp_o0 (by omega) (by omega) (by omega) (by omega), trivial⟩ (Nat.le_of_ble_eq_true rfl) ⟨⟨M, hMξ, hVξ, trivial⟩, rfl, hYF0ξ⟩ (fun al halξ rna48ξ Pa48 Ga48 hexta48ξ hfra48ξ hoka48ξ hcsa48ξ hpsia48ξ => ?_)
    obtain rfl := List.mem_singleton.mp halξ
    have hra48ξ := zp_int (hoka48ξ _ rfl).1
    obtain ⟨hPea48ξ, ⟨Ma48, hMa48ξ, hVa48ξ, hSba48ξ⟩, hta48ξ⟩ := hpsia48ξ
    subst hPea48ξ
    clear hexta48ξ hfra48ξ hcsa48ξ hoka48ξ
    have hVa48ξ : ∀ o k, zNc o → Ma48 o k = (zf_rfs V p1ξ).2 o k := hVa48ξ
    have hta48ξ : rna48ξ = ((zf_rfs V p1ξ).1) := hta48ξ
    have hta48ξ := (Eq.symm hta48ξ)
    subst hta48ξ
    refine zp_goto (tgt := 17) (pc := 9) hx hb (zd_X11_settled (9, .goto 8, 3, 0, []) (List.mem_of_getElem? (i := 5) rfl)) rfl ?_
    refine zp_iret (pc := 17) (n := ((zf_rfs V p1ξ).1)) hx hb hEξ hQξ hU5ξ rfl (by decide) (zd_X11_settled (17, .ireturn, 1, 0, []) (List.mem_of_getElem? (i := 9) rfl)) (j := 0) rfl (zp_o0 (by omega) (by omega) (by omega) (by omega)) ?_
    rw [hpsξ]
    refine ⟨rfl, ?_⟩
    have hffξ : zf_stc V p1ξ = (((zf_rfs V p1ξ).1), (zf_rfs V p1ξ).2) := by
      unfold zf_stc
      rw [if_neg hc46ξ]
    show zMVc A Y F (zf_stc V p1ξ).2 u.1 Ga48 ∧ ((zf_rfs V p1ξ).1) = (zf_stc V p1ξ).1
    rw [hffξ]
    exact ⟨⟨Ma48, hMa48ξ, hVa48ξ, trivial⟩, rfl⟩
noncomputable def zf_clr3 (V : Nat → Nat → Int) : Int × (Nat → Nat → Int) := (0, (zp_set V 3 3 0))
noncomputable def zK_clr3 : zk_K := (zt_mn 19, prog_12_method_2_code, 1, (Option.none : Option Jvm.ClassFile.FieldType), 1, 10, [(2, 11, 0, 0)], [(none, [])], zUC, (0, 0, 0, 0))
noncomputable def zφ_clr3 (A : Nat → Nat) (Y : List (Nat × Nat)) (F : List (Nat × Nat × Nat)) (V : Nat → Nat → Int) : (Nat → Option Nat) → (Nat → Nat → Int) → List Int → Prop := fun P G ps => zMVc A Y F V P G ∧ ps.getD 0 0 = (A 3 : Int) ∧ zMc Y F
noncomputable def zψ_clr3 (A : Nat → Nat) (Y : List (Nat × Nat)) (F : List (Nat × Nat × Nat)) (V : Nat → Nat → Int) : (Nat → Option Nat) → (Nat → Nat → Int) → List Int → (Nat → Option Nat) → (Nat → Nat → Int) → Int → Prop := fun P G ps P' G' rn => P' = P ∧ zMVc A Y F (zf_clr3 V).2 P' G'
theorem zX_clr3 {l : Launch} {w : zk_W} (hWξ : zh_W w) (A : Nat → Nat) (Y : List (Nat × Nat)) (F : List (Nat × Nat × Nat)) (V : Nat → Nat → Int) : zk_metX l w zt_dv zt_TB zK_clr3 (zp_A (zφ_clr3 A Y F V)) (zp_B (zψ_clr3 A Y F V)) ∧ zk_cok w zt_TB zK_clr3 := by
  refine zp_methX (cn := "WoundTown$Undo") zp_lkallU hWξ (pl := 623) rfl (by decide +kernel) (fun p e R s m args below meth c Q u hx hb hEξ hQξ hU5ξ heffξ hnLξ hokξ hφ => ?_)
  have hwξ := hWξ.1
  obtain ⟨p0ξ, hpsξ, tk0⟩ := zp_ps1 hokξ
  have hrmξ : zk_Kr (zk_ev (zt_types, zp_lkU, zt_dv, [], [], zp_lcU, zK_clr3)) = zk_Kr zK_clr3 := rfl
  rw [hpsξ] at hφ ⊢
  have hφ : zMVc A Y F V u.1 (zp_n u.2.1) ∧ p0ξ = (A 3 : Int) ∧ zMc Y F := hφ
  obtain ⟨⟨M, hMξ, hVξ, hSbξ⟩, rfl, hYFξ⟩ := hφ
  have hYF0ξ := hYFξ
  obtain ⟨hYbξ, hFbξ, hFxξ, -⟩ := hYFξ
  show zp_J p l e R s m args below meth c Q w u [] 0 [(0, 2, (A 3 : Int))] [] u.1 (zp_n u.2.1)
  refine zp_load (pc := 0) hx hb (zd_X10_clear (0, .aload_n 0, 1, 0, []) (List.mem_of_getElem? (i := 0) rfl)) rfl (j := 0) rfl ?_
  refine zp_const (pc := 1) hx hb (zd_X10_clear (1, .iconst 0, 1, 0, []) (List.mem_of_getElem? (i := 1) rfl)) rfl rfl ?_
  refine zp_putf (pc := 2) hx hb hEξ hwξ heffξ (zd_X10_clear (2, .putfield 20, 3, 0, []) (List.mem_of_getElem? (i := 2) rfl)) (j := 4) rfl rfl rfl (zM_P hMξ (hYbξ _ (List.mem_of_getElem? (i := 3) rfl))) (zp_o0 (by decide) (by decide) (by decide) (by decide)) ?_
  refine zp_vret (pc := 5) hx hb hEξ hQξ hU5ξ rfl (by decide) (zd_X10_clear (5, .return_, 1, 0, []) (List.mem_of_getElem? (i := 3) rfl)) (j := 0) rfl ?_
  rw [hpsξ]
  refine ⟨rfl, ?_⟩
  have hffξ : zf_clr3 V = (0, (zp_set V 3 3 0)) := rfl
  show zMVc A Y F (zf_clr3 V).2 u.1 (zp_set (zp_n u.2.1) (A 3) 3 0)
  rw [hffξ]
  exact ⟨(zp_set M 3 3 0), (zM_set hMξ (hYbξ _ (List.mem_of_getElem? (i := 3) rfl)) (zFx hFxξ (o := 3) (k := 3) (by decide) (by decide))), (zV_set hVξ), trivial⟩
theorem zf_clr3_f {V : Nat → Nat → Int} {o k : Nat} (h9ξ : o ∉ ([3] : List Nat)) : (zf_clr3 V).2 o k = V o k := by
  unfold zf_clr3
  show (zp_set V 3 3 0) o k = V o k
  exact (zp_set_ne (Or.inl (zc_nin h9ξ (by decide))))
noncomputable def zf_adp1 (V : Nat → Nat → Int) (p1ξ : Int) (p2ξ : Int) : Int × (Nat → Nat → Int) := if (V 1 1) < 6 then ((V 1 1), (zp_set (zp_set (zp_set (zp_set V 50 (2000 + (V 1 1).toNat) p1ξ) 51 (2000 + (V 1 1).toNat) 0) 31 (2000 + (V 1 1).toNat) p2ξ) 1 1 ((V 1 1) + 1))) else ((-1), V)
noncomputable def zK_adp1 : zk_K := (zt_mn 20, prog_11_method_7_code, 4, (Option.some Jvm.ClassFile.FieldType.int), 1, 9, [(2, 10, 0, 0), (0, 0, (-2147483648), 2147483647), (0, 0, (-2147483648), 2147483647)], [(some (0, 0, (-2147483648), 2147483647), [])], zUC, (0, 0, 0, 0))
noncomputable def zφ_adp1 (A : Nat → Nat) (Y : List (Nat × Nat)) (F : List (Nat × Nat × Nat)) (V : Nat → Nat → Int) : (Nat → Option Nat) → (Nat → Nat → Int) → List Int → Prop := fun P G ps => zMVc A Y F V P G ∧ ps.getD 0 0 = (A 1 : Int) ∧ zMc Y F
noncomputable def zψ_adp1 (A : Nat → Nat) (Y : List (Nat × Nat)) (F : List (Nat × Nat × Nat)) (V : Nat → Nat → Int) : (Nat → Option Nat) → (Nat → Nat → Int) → List Int → (Nat → Option Nat) → (Nat → Nat → Int) → Int → Prop := fun P G ps P' G' rn => P' = P ∧ zMVc A Y F (zf_adp1 V (ps.getD 1 0) (ps.getD 2 0)).2 P' G' ∧ rn = (zf_adp1 V (ps.getD 1 0) (ps.getD 2 0)).1
theorem zX_adp1 {l : Launch} {w : zk_W} (hWξ : zh_W w) (A : Nat → Nat) (Y : List (Nat × Nat)) (F : List (Nat × Nat × Nat)) (V : Nat → Nat → Int) : zk_metX l w zt_dv zt_TB zK_adp1 (zp_A (zφ_adp1 A Y F V)) (zp_B (zψ_adp1 A Y F V)) ∧ zk_cok w zt_TB zK_adp1 := by
  refine zp_methX (cn := "WoundTown$Town") zp_lkallN hWξ (pl := 627) rfl (by decide +kernel) (fun p e R s m args below meth c Q u hx hb hEξ hQξ hU5ξ heffξ hnLξ hokξ hφ => ?_)
  have hwξ := hWξ.1
  obtain ⟨p0ξ, p1ξ, p2ξ, hpsξ, tk0, tk1, tk2⟩ := zp_ps3 hokξ
  have hrmξ : zk_Kr (zk_ev (zt_types, zp_lkN, zt_dv, [], [], zp_lcN, zK_adp1)) = zk_Kr zK_adp1 := rfl
  rw [hpsξ] at hφ ⊢
  have hφ : zMVc A Y F V u.1 (zp_n u.2.1) ∧ p0ξ = (A 1 : Int) ∧ zMc Y F := hφ
  obtain ⟨⟨M, hMξ, hVξ, hSbξ⟩, rfl, hYFξ⟩ := hφ
  have hYF0ξ := hYFξ
  obtain ⟨hYbξ, hFbξ, hFxξ, -⟩ := hYFξ
  have hi1ξ := zp_int tk1
  have hi2ξ := zp_int tk2
  show zp_J p l e R s m args below meth c Q w u [] 0 [(0, 2, (A 1 : Int)), (1, 0, p1ξ), (2, 0, p2ξ)] [] u.1 (zp_n u.2.1)
  refine zp_load (pc := 0) hx hb (zd_X9_addPerson (0, .aload_n 0, 1, 0, []) (List.mem_of_getElem? (i := 0) rfl)) rfl (j := 0) rfl ?_
  refine zp_getf (n := (V 1 1)) (pc := 1) hx hb hEξ hwξ (zd_X9_addPerson (1, .getfield 68, 3, 0, []) (List.mem_of_getElem? (i := 1) rfl)) (j := 8) rfl rfl rfl (zM_P hMξ (hYbξ _ (List.mem_of_getElem? (i := 1) rfl))) ((zM_G hMξ (hYbξ _ (List.mem_of_getElem? (i := 1) rfl)) 1).trans (hVξ 1 1 (by decide))) ?_
  refine zp_kn (k := 1) (a := (A 1)) hwξ (show zp_fd 10 1 = some (9, 0, 0, 0, 6) from rfl) rfl (zM_P hMξ (hYbξ _ (List.mem_of_getElem? (i := 1) rfl))) (fun hf49ξ => ?_)
  have hf49bξ := zp_int hf49ξ
  rw [((zM_G hMξ (hYbξ _ (List.mem_of_getElem? (i := 1) rfl)) 1).trans (hVξ 1 1 (by decide)))] at hf49bξ
  clear hf49ξ
  refine zp_store (L' := [(3, 0, (V 1 1)), (0, 2, (A 1 : Int)), (1, 0, p1ξ), (2, 0, p2ξ)]) (pc := 4) hx hb hnLξ (zd_X9_addPerson (4, .istore_n 3, 1, 0, []) (List.mem_of_getElem? (i := 2) rfl)) rfl rfl rfl ?_
  refine zp_load (pc := 5) hx hb (zd_X9_addPerson (5, .iload_n 3, 1, 0, []) (List.mem_of_getElem? (i := 3) rfl)) rfl (j := 0) rfl ?_
  refine zp_const (pc := 6) hx hb (zd_X9_addPerson (6, .bipush 6, 2, 0, []) (List.mem_of_getElem? (i := 4) rfl)) rfl rfl ?_
  refine zp_icmp (pc := 8) (tgt := 13) hx hb (zd_X9_addPerson (8, .if_icmp .lt 5, 3, 0, []) (List.mem_of_getElem? (i := 5) rfl)) rfl (fun (hc50ξ : (V 1 1) < 6) => ?_) (fun (hc50ξ : ¬ ((V 1 1) < 6)) => ?_)
  · refine zp_load (pc := 13) hx hb (zd_X9_addPerson (13, .aload_n 0, 1, 0, []) (List.mem_of_getElem? (i := 8) rfl)) rfl (j := 1) rfl ?_
    refine zp_getf (n := (A 2 : Int)) (pc := 14) hx hb hEξ hwξ (zd_X9_addPerson (14, .getfield 58, 3, 0, []) (List.mem_of_getElem? (i := 9) rfl)) (j := 25) rfl rfl rfl (zM_P hMξ (hYbξ _ (List.mem_of_getElem? (i := 1) rfl))) ((zM_G hMξ (hYbξ _ (List.mem_of_getElem? (i := 1) rfl)) 18).trans (zM_F hMξ (hFbξ _ (List.mem_of_getElem? (i := 24) rfl)))) ?_
    refine zp_getf (n := (A 50 : Int)) (pc := 17) hx hb hEξ hwξ (zd_X9_addPerson (17, .getfield 97, 3, 0, []) (List.mem_of_getElem? (i := 10) rfl)) (j := 3) rfl rfl rfl (zM_P hMξ (hYbξ _ (List.mem_of_getElem? (i := 2) rfl))) ((zM_G hMξ (hYbξ _ (List.mem_of_getElem? (i := 2) rfl)) 0).trans (zM_F hMξ (hFbξ _ (List.mem_of_getElem? (i := 25) rfl)))) ?_
    refine zp_load (pc := 20) hx hb (zd_X9_addPerson (20, .iload_n 3, 1, 0, []) (List.mem_of_getElem? (i := 11) rfl)) rfl (j := 0) rfl ?_
    refine zp_load (pc := 21) hx hb (zd_X9_addPerson (21, .iload_n 1, 1, 0, []) (List.mem_of_getElem? (i := 12) rfl)) rfl (j := 2) rfl ?_
    refine zp_iast (j := (V 1 1).toNat) (pc := 22) hx hb hwξ heffξ (zd_X9_addPerson (22, .iastore, 1, 0, []) (List.mem_of_getElem? (i := 13) rfl)) (show zp_ia 1 17 = some (6, 0, 0, (-2147483648), 2147483647) from rfl) (zM_P hMξ (hYbξ _ (List.mem_of_getElem? (i := 28) rfl))) (by omega) (by omega) (zp_o0 (by omega) (by omega) (by omega) (by omega)) rfl ?_
    refine zp_load (pc := 23) hx hb (zd_X9_addPerson (23, .aload_n 0, 1, 0, []) (List.mem_of_getElem? (i := 14) rfl)) rfl (j := 1) rfl ?_
    refine zp_getf (n := (A 2 : Int)) (pc := 24) hx hb hEξ hwξ (zd_X9_addPerson (24, .getfield 58, 3, 0, []) (List.mem_of_getElem? (i := 15) rfl)) (j := 25) rfl rfl rfl (zM_P hMξ (hYbξ _ (List.mem_of_getElem? (i := 1) rfl))) ((zp_set_ne (Or.inl (zM_ne hMξ (hYbξ _ (List.mem_of_getElem? (i := 1) rfl)) (hYbξ _ (List.mem_of_getElem? (i := 28) rfl)) (by decide)))).trans (((zM_G hMξ (hYbξ _ (List.mem_of_getElem? (i := 1) rfl)) 18).trans (zM_F hMξ (hFbξ _ (List.mem_of_getElem? (i := 24) rfl)))))) ?_
    refine zp_getf (n := (A 51 : Int)) (pc := 27) hx hb hEξ hwξ (zd_X9_addPerson (27, .getfield 100, 3, 0, []) (List.mem_of_getElem? (i := 16) rfl)) (j := 4) rfl rfl rfl (zM_P hMξ (hYbξ _ (List.mem_of_getElem? (i := 2) rfl))) ((zp_set_ne (Or.inl (zM_ne hMξ (hYbξ _ (List.mem_of_getElem? (i := 2) rfl)) (hYbξ _ (List.mem_of_getElem? (i := 28) rfl)) (by decide)))).trans (((zM_G hMξ (hYbξ _ (List.mem_of_getElem? (i := 2) rfl)) 1).trans (zM_F hMξ (hFbξ _ (List.mem_of_getElem? (i := 26) rfl)))))) ?_
    refine zp_load (pc := 30) hx hb (zd_X9_addPerson (30, .iload_n 3, 1, 0, []) (List.mem_of_getElem? (i := 17) rfl)) rfl (j := 0) rfl ?_
    refine zp_const (pc := 31) hx hb (zd_X9_addPerson (31, .iconst 0, 1, 0, []) (List.mem_of_getElem? (i := 18) rfl)) rfl rfl ?_
    refine zp_iast (j := (V 1 1).toNat) (pc := 32) hx hb hwξ heffξ (zd_X9_addPerson (32, .iastore, 1, 0, []) (List.mem_of_getElem? (i := 19) rfl)) (show zp_ia 1 18 = some (6, 0, 0, 0, 45) from rfl) (zM_P hMξ (hYbξ _ (List.mem_of_getElem? (i := 29) rfl))) (by omega) (by omega) (zp_o0 (by omega) (by omega) (by omega) (by omega)) rfl ?_
    refine zp_load (pc := 33) hx hb (zd_X9_addPerson (33, .aload_n 0, 1, 0, []) (List.mem_of_getElem? (i := 20) rfl)) rfl (j := 1) rfl ?_
    refine zp_getf (n := (A 31 : Int)) (pc := 34) hx hb hEξ hwξ (zd_X9_addPerson (34, .getfield 15, 3, 0, []) (List.mem_of_getElem? (i := 21) rfl)) (j := 9) rfl rfl rfl (zM_P hMξ (hYbξ _ (List.mem_of_getElem? (i := 1) rfl))) ((zp_set_ne (Or.inl (zM_ne hMξ (hYbξ _ (List.mem_of_getElem? (i := 1) rfl)) (hYbξ _ (List.mem_of_getElem? (i := 29) rfl)) (by decide)))).trans ((zp_set_ne (Or.inl (zM_ne hMξ (hYbξ _ (List.mem_of_getElem? (i := 1) rfl)) (hYbξ _ (List.mem_of_getElem? (i := 28) rfl)) (by decide)))).trans (((zM_G hMξ (hYbξ _ (List.mem_of_getElem? (i := 1) rfl)) 2).trans (zM_F hMξ (hFbξ _ (List.mem_of_getElem? (i := 14) rfl))))))) ?_
    refine zp_load (pc := 37) hx hb (zd_X9_addPerson (37, .iload_n 3, 1, 0, []) (List.mem_of_getElem? (i := 22) rfl)) rfl (j := 0) rfl ?_
    refine zp_load (pc := 38) hx hb (zd_X9_addPerson (38, .iload_n 2, 1, 0, []) (List.mem_of_getElem? (i := 23) rfl)) rfl (j := 3) rfl ?_
    refine zp_iast (j := (V 1 1).toNat) (pc := 39) hx hb hwξ heffξ (zd_X9_addPerson (39, .iastore, 1, 0, []) (List.mem_of_getElem? (i := 24) rfl)) (show zp_ia 1 43 = some (6, 0, 0, (-2147483648), 2147483647) from rfl) (zM_P hMξ (hYbξ _ (List.mem_of_getElem? (i := 18) rfl))) (by omega) (by omega) (zp_o0 (by omega) (by omega) (by omega) (by omega)) rfl ?_
    refine zp_load (pc := 40) hx hb (zd_X9_addPerson (40, .aload_n 0, 1, 0, []) (List.mem_of_getElem? (i := 25) rfl)) rfl (j := 1) rfl ?_
    refine zp_dup (pc := 41) hx hb (zd_X9_addPerson (41, .dup, 1, 0, []) (List.mem_of_getElem? (i := 26) rfl)) (show (2 : Nat) ≠ 1 by decide) ?_
    refine zp_getf (n := (V 1 1)) (pc := 42) hx hb hEξ hwξ (zd_X9_addPerson (42, .getfield 68, 3, 0, []) (List.mem_of_getElem? (i := 27) rfl)) (j := 8) rfl rfl rfl (zM_P hMξ (hYbξ _ (List.mem_of_getElem? (i := 1) rfl))) ((zp_set_ne (Or.inl (zM_ne hMξ (hYbξ _ (List.mem_of_getElem? (i := 1) rfl)) (hYbξ _ (List.mem_of_getElem? (i := 18) rfl)) (by decide)))).trans ((zp_set_ne (Or.inl (zM_ne hMξ (hYbξ _ (List.mem_of_getElem? (i := 1) rfl)) (hYbξ _ (List.mem_of_getElem? (i := 29) rfl)) (by decide)))).trans ((zp_set_ne (Or.inl (zM_ne hMξ (hYbξ _ (List.mem_of_getElem? (i := 1) rfl)) (hYbξ _ (List.mem_of_getElem? (i := 28) rfl)) (by decide)))).trans (((zM_G hMξ (hYbξ _ (List.mem_of_getElem? (i := 1) rfl)) 1).trans (hVξ 1 1 (by decide))))))) ?_
    refine zp_const (pc := 45) hx hb (zd_X9_addPerson (45, .iconst 1, 1, 0, []) (List.mem_of_getElem? (i := 28) rfl)) rfl rfl ?_
    refine zp_add (n := ((V 1 1) + 1)) (pc := 46) hx hb (zd_X9_addPerson (46, .iadd, 1, 0, []) (List.mem_of_getElem? (i := 29) rfl)) (by omega) (zp_r0 (by omega) (by omega)) ?_
    refine zp_putf (pc := 47) hx hb hEξ hwξ heffξ (zd_X9_addPerson (47, .putfield 68, 3, 0, []) (List.mem_of_getElem? (i := 30) rfl)) (j := 8) rfl rfl rfl (zM_P hMξ (hYbξ _ (List.mem_of_getElem? (i := 1) rfl))) (zp_o0 (by omega) (by omega) (by omega) (by omega)) ?_
    refine zp_load (pc := 50) hx hb (zd_X9_addPerson (50, .iload_n 3, 1, 0, []) (List.mem_of_getElem? (i := 31) rfl)) rfl (j := 0) rfl ?_
    refine zp_iret (pc := 51) (n := (V 1 1)) hx hb hEξ hQξ hU5ξ rfl (by decide) (zd_X9_addPerson (51, .ireturn, 1, 0, []) (List.mem_of_getElem? (i := 32) rfl)) (j := 0) rfl (zp_o0 (by omega) (by omega) (by omega) (by omega)) ?_
    rw [hpsξ]
    refine ⟨rfl, ?_⟩
    have hffξ : zf_adp1 V p1ξ p2ξ = ((V 1 1), (zp_set (zp_set (zp_set (zp_set V 50 (2000 + (V 1 1).toNat) p1ξ) 51 (2000 + (V 1 1).toNat) 0) 31 (2000 + (V 1 1).toNat) p2ξ) 1 1 ((V 1 1) + 1))) := by
      unfold zf_adp1
      rw [if_pos hc50ξ]
    show zMVc A Y F (zf_adp1 V p1ξ p2ξ).2 u.1 (zp_set (zp_set (zp_set (zp_set (zp_n u.2.1) (A 50) (2000 + (V 1 1).toNat) p1ξ) (A 51) (2000 + (V 1 1).toNat) 0) (A 31) (2000 + (V 1 1).toNat) p2ξ) (A 1) 1 ((V 1 1) + 1)) ∧ (V 1 1) = (zf_adp1 V p1ξ p2ξ).1
    rw [hffξ]
    exact ⟨⟨(zp_set (zp_set (zp_set (zp_set M 50 (2000 + (V 1 1).toNat) p1ξ) 51 (2000 + (V 1 1).toNat) 0) 31 (2000 + (V 1 1).toNat) p2ξ) 1 1 ((V 1 1) + 1)), (zM_set (zM_setE (zM_setE (zM_setE hMξ (hYbξ _ (List.mem_of_getElem? (i := 28) rfl))) (hYbξ _ (List.mem_of_getElem? (i := 29) rfl))) (hYbξ _ (List.mem_of_getElem? (i := 18) rfl))) (hYbξ _ (List.mem_of_getElem? (i := 1) rfl)) (zFx hFxξ (o := 1) (k := 1) (by decide) (by decide))), (zV_set (zV_set (zV_set (zV_set hVξ)))), trivial⟩, rfl⟩
  · refine zp_const (pc := 11) hx hb (zd_X9_addPerson (11, .iconst (-1), 1, 0, []) (List.mem_of_getElem? (i := 6) rfl)) rfl rfl ?_
    refine zp_iret (pc := 12) (n := (-1)) hx hb hEξ hQξ hU5ξ rfl (by decide) (zd_X9_addPerson (12, .ireturn, 1, 0, []) (List.mem_of_getElem? (i := 7) rfl)) (j := 0) rfl (zp_o0 (by omega) (by omega) (by omega) (by omega)) ?_
    rw [hpsξ]
    refine ⟨rfl, ?_⟩
    have hffξ : zf_adp1 V p1ξ p2ξ = ((-1), V) := by
      unfold zf_adp1
      rw [if_neg hc50ξ]
    show zMVc A Y F (zf_adp1 V p1ξ p2ξ).2 u.1 (zp_n u.2.1) ∧ (-1) = (zf_adp1 V p1ξ p2ξ).1
    rw [hffξ]
    exact ⟨⟨M, hMξ, hVξ, trivial⟩, rfl⟩
noncomputable def zf_adw1 (V : Nat → Nat → Int) (p1ξ : Int) (p2ξ : Int) (p3ξ : Int) (p4ξ : Int) (p5ξ : Int) : Int × (Nat → Nat → Int) := if (V 1 3) < 10 then ((V 1 3), (zp_set (zp_set (zp_set (zp_set (zp_set (zp_set (zp_set V 32 (2000 + (V 1 3).toNat) p1ξ) 33 (2000 + (V 1 3).toNat) p2ξ) 34 (2000 + (V 1 3).toNat) p3ξ) 35 (2000 + (V 1 3).toNat) p4ξ) 36 (2000 + (V 1 3).toNat) p5ξ) 52 (2000 + (V 1 3).toNat) 0) 1 3 ((V 1 3) + 1))) else ((-1), V)
noncomputable def zK_adw1 : zk_K := (zt_mn 28, prog_11_method_8_code, 7, (Option.some Jvm.ClassFile.FieldType.int), 1, 9, [(2, 10, 0, 0), (0, 0, (-2147483648), 2147483647), (0, 0, (-2147483648), 2147483647), (0, 0, (-2147483648), 2147483647), (0, 0, (-2147483648), 2147483647), (0, 0, (-2147483648), 2147483647)], [(some (0, 0, (-2147483648), 2147483647), [])], zUC, (0, 0, 0, 0))
noncomputable def zφ_adw1 (A : Nat → Nat) (Y : List (Nat × Nat)) (F : List (Nat × Nat × Nat)) (V : Nat → Nat → Int) : (Nat → Option Nat) → (Nat → Nat → Int) → List Int → Prop := fun P G ps => zMVc A Y F V P G ∧ ps.getD 0 0 = (A 1 : Int) ∧ zMc Y F
noncomputable def zψ_adw1 (A : Nat → Nat) (Y : List (Nat × Nat)) (F : List (Nat × Nat × Nat)) (V : Nat → Nat → Int) : (Nat → Option Nat) → (Nat → Nat → Int) → List Int → (Nat → Option Nat) → (Nat → Nat → Int) → Int → Prop := fun P G ps P' G' rn => P' = P ∧ zMVc A Y F (zf_adw1 V (ps.getD 1 0) (ps.getD 2 0) (ps.getD 3 0) (ps.getD 4 0) (ps.getD 5 0)).2 P' G' ∧ rn = (zf_adw1 V (ps.getD 1 0) (ps.getD 2 0) (ps.getD 3 0) (ps.getD 4 0) (ps.getD 5 0)).1
theorem zX_adw1 {l : Launch} {w : zk_W} (hWξ : zh_W w) (A : Nat → Nat) (Y : List (Nat × Nat)) (F : List (Nat × Nat × Nat)) (V : Nat → Nat → Int) : zk_metX l w zt_dv zt_TB zK_adw1 (zp_A (zφ_adw1 A Y F V)) (zp_B (zψ_adw1 A Y F V)) ∧ zk_cok w zt_TB zK_adw1 := by
  refine zp_methX (cn := "WoundTown$Town") zp_lkallN hWξ (pl := 660) rfl (by decide +kernel) (fun p e R s m args below meth c Q u hx hb hEξ hQξ hU5ξ heffξ hnLξ hokξ hφ => ?_)
  have hwξ := hWξ.1
  obtain ⟨p0ξ, p1ξ, p2ξ, p3ξ, p4ξ, p5ξ, hpsξ, tk0, tk1, tk2, tk3, tk4, tk5⟩ := zp_ps6 hokξ
  have hrmξ : zk_Kr (zk_ev (zt_types, zp_lkN, zt_dv, [], [], zp_lcN, zK_adw1)) = zk_Kr zK_adw1 := rfl
  rw [hpsξ] at hφ ⊢
  have hφ : zMVc A Y F V u.1 (zp_n u.2.1) ∧ p0ξ = (A 1 : Int) ∧ zMc Y F := hφ
  obtain ⟨⟨M, hMξ, hVξ, hSbξ⟩, rfl, hYFξ⟩ := hφ
  have hYF0ξ := hYFξ
  obtain ⟨hYbξ, hFbξ, hFxξ, -⟩ := hYFξ
  have hi1ξ := zp_int tk1
  have hi2ξ := zp_int tk2
  have hi3ξ := zp_int tk3
  have hi4ξ := zp_int tk4
  have hi5ξ := zp_int tk5
  show zp_J p l e R s m args below meth c Q w u [] 0 [(0, 2, (A 1 : Int)), (1, 0, p1ξ), (2, 0, p2ξ), (3, 0, p3ξ), (4, 0, p4ξ), (5, 0, p5ξ)] [] u.1 (zp_n u.2.1)
  refine zp_load (pc := 0) hx hb (zd_X9_addWork (0, .aload_n 0, 1, 0, []) (List.mem_of_getElem? (i := 0) rfl)) rfl (j := 0) rfl ?_
  refine zp_getf (n := (V 1 3)) (pc := 1) hx hb hEξ hwξ (zd_X9_addWork (1, .getfield 71, 3, 0, []) (List.mem_of_getElem? (i := 1) rfl)) (j := 10) rfl rfl rfl (zM_P hMξ (hYbξ _ (List.mem_of_getElem? (i := 1) rfl))) ((zM_G hMξ (hYbξ _ (List.mem_of_getElem? (i := 1) rfl)) 3).trans (hVξ 1 3 (by decide))) ?_
  refine zp_kn (k := 3) (a := (A 1)) hwξ (show zp_fd 10 3 = some (9, 0, 0, 0, 10) from rfl) rfl (zM_P hMξ (hYbξ _ (List.mem_of_getElem? (i := 1) rfl))) (fun hf51ξ => ?_)
  have hf51bξ := zp_int hf51ξ
  rw [((zM_G hMξ (hYbξ _ (List.mem_of_getElem? (i := 1) rfl)) 3).trans (hVξ 1 3 (by decide)))] at hf51bξ
  clear hf51ξ
  refine zp_store (L' := [(6, 0, (V 1 3)), (0, 2, (A 1 : Int)), (1, 0, p1ξ), (2, 0, p2ξ), (3, 0, p3ξ), (4, 0, p4ξ), (5, 0, p5ξ)]) (pc := 4) hx hb hnLξ (zd_X9_addWork (4, .istore 6, 2, 0, []) (List.mem_of_getElem? (i := 2) rfl)) rfl rfl rfl ?_
  refine zp_load (pc := 6) hx hb (zd_X9_addWork (6, .iload 6, 2, 0, []) (List.mem_of_getElem? (i := 3) rfl)) rfl (j := 0) rfl ?_
  refine zp_const (pc := 8) hx hb (zd_X9_addWork (8, .bipush 10, 2, 0, []) (List.mem_of_getElem? (i := 4) rfl)) rfl rfl ?_
  refine zp_icmp (pc := 10) (tgt := 15) hx hb (zd_X9_addWork (10, .if_icmp .lt 5, 3, 0, []) (List.mem_of_getElem? (i := 5) rfl)) rfl (fun (hc52ξ : (V 1 3) < 10) => ?_) (fun (hc52ξ : ¬ ((V 1 3) < 10)) => ?_)
  · refine zp_load (pc := 15) hx hb (zd_X9_addWork (15, .aload_n 0, 1, 0, []) (List.mem_of_getElem? (i := 8) rfl)) rfl (j := 1) rfl ?_
    refine zp_getf (n := (A 32 : Int)) (pc := 16) hx hb hEξ hwξ (zd_X9_addWork (16, .getfield 18, 3, 0, []) (List.mem_of_getElem? (i := 9) rfl)) (j := 11) rfl rfl rfl (zM_P hMξ (hYbξ _ (List.mem_of_getElem? (i := 1) rfl))) ((zM_G hMξ (hYbξ _ (List.mem_of_getElem? (i := 1) rfl)) 4).trans (zM_F hMξ (hFbξ _ (List.mem_of_getElem? (i := 15) rfl)))) ?_
    refine zp_load (pc := 19) hx hb (zd_X9_addWork (19, .iload 6, 2, 0, []) (List.mem_of_getElem? (i := 10) rfl)) rfl (j := 0) rfl ?_
    refine zp_load (pc := 21) hx hb (zd_X9_addWork (21, .iload_n 1, 1, 0, []) (List.mem_of_getElem? (i := 11) rfl)) rfl (j := 2) rfl ?_
    refine zp_iast (j := (V 1 3).toNat) (pc := 22) hx hb hwξ heffξ (zd_X9_addWork (22, .iastore, 1, 0, []) (List.mem_of_getElem? (i := 12) rfl)) (show zp_ia 1 44 = some (10, 0, 0, (-2147483648), 2147483647) from rfl) (zM_P hMξ (hYbξ _ (List.mem_of_getElem? (i := 19) rfl))) (by omega) (by omega) (zp_o0 (by omega) (by omega) (by omega) (by omega)) rfl ?_
    refine zp_load (pc := 23) hx hb (zd_X9_addWork (23, .aload_n 0, 1, 0, []) (List.mem_of_getElem? (i := 13) rfl)) rfl (j := 1) rfl ?_
    refine zp_getf (n := (A 33 : Int)) (pc := 24) hx hb hEξ hwξ (zd_X9_addWork (24, .getfield 21, 3, 0, []) (List.mem_of_getElem? (i := 14) rfl)) (j := 12) rfl rfl rfl (zM_P hMξ (hYbξ _ (List.mem_of_getElem? (i := 1) rfl))) ((zp_set_ne (Or.inl (zM_ne hMξ (hYbξ _ (List.mem_of_getElem? (i := 1) rfl)) (hYbξ _ (List.mem_of_getElem? (i := 19) rfl)) (by decide)))).trans (((zM_G hMξ (hYbξ _ (List.mem_of_getElem? (i := 1) rfl)) 5).trans (zM_F hMξ (hFbξ _ (List.mem_of_getElem? (i := 16) rfl)))))) ?_
    refine zp_load (pc := 27) hx hb (zd_X9_addWork (27, .iload 6, 2, 0, []) (List.mem_of_getElem? (i := 15) rfl)) rfl (j := 0) rfl ?_
    refine zp_load (pc := 29) hx hb (zd_X9_addWork (29, .iload_n 2, 1, 0, []) (List.mem_of_getElem? (i := 16) rfl)) rfl (j := 3) rfl ?_
    refine zp_iast (j := (V 1 3).toNat) (pc := 30) hx hb hwξ heffξ (zd_X9_addWork (30, .iastore, 1, 0, []) (List.mem_of_getElem? (i := 17) rfl)) (show zp_ia 1 45 = some (10, 0, 0, (-2147483648), 2147483647) from rfl) (zM_P hMξ (hYbξ _ (List.mem_of_getElem? (i := 20) rfl))) (by omega) (by omega) (zp_o0 (by omega) (by omega) (by omega) (by omega)) rfl ?_
    refine zp_load (pc := 31) hx hb (zd_X9_addWork (31, .aload_n 0, 1, 0, []) (List.mem_of_getElem? (i := 18) rfl)) rfl (j := 1) rfl ?_
    refine zp_getf (n := (A 34 : Int)) (pc := 32) hx hb hEξ hwξ (zd_X9_addWork (32, .getfield 24, 3, 0, []) (List.mem_of_getElem? (i := 19) rfl)) (j := 13) rfl rfl rfl (zM_P hMξ (hYbξ _ (List.mem_of_getElem? (i := 1) rfl))) ((zp_set_ne (Or.inl (zM_ne hMξ (hYbξ _ (List.mem_of_getElem? (i := 1) rfl)) (hYbξ _ (List.mem_of_getElem? (i := 20) rfl)) (by decide)))).trans ((zp_set_ne (Or.inl (zM_ne hMξ (hYbξ _ (List.mem_of_getElem? (i := 1) rfl)) (hYbξ _ (List.mem_of_getElem? (i := 19) rfl)) (by decide)))).trans (((zM_G hMξ (hYbξ _ (List.mem_of_getElem? (i := 1) rfl)) 6).trans (zM_F hMξ (hFbξ _ (List.mem_of_getElem? (i := 17) rfl))))))) ?_
    refine zp_load (pc := 35) hx hb (zd_X9_addWork (35, .iload 6, 2, 0, []) (List.mem_of_getElem? (i := 20) rfl)) rfl (j := 0) rfl ?_
    refine zp_load (pc := 37) hx hb (zd_X9_addWork (37, .iload_n 3, 1, 0, []) (List.mem_of_getElem? (i := 21) rfl)) rfl (j := 4) rfl ?_
    refine zp_iast (j := (V 1 3).toNat) (pc := 38) hx hb hwξ heffξ (zd_X9_addWork (38, .iastore, 1, 0, []) (List.mem_of_getElem? (i := 22) rfl)) (show zp_ia 1 46 = some (10, 0, 0, (-2147483648), 2147483647) from rfl) (zM_P hMξ (hYbξ _ (List.mem_of_getElem? (i := 21) rfl))) (by omega) (by omega) (zp_o0 (by omega) (by omega) (by omega) (by omega)) rfl ?_
    refine zp_load (pc := 39) hx hb (zd_X9_addWork (39, .aload_n 0, 1, 0, []) (List.mem_of_getElem? (i := 23) rfl)) rfl (j := 1) rfl ?_
    refine zp_getf (n := (A 35 : Int)) (pc := 40) hx hb hEξ hwξ (zd_X9_addWork (40, .getfield 27, 3, 0, []) (List.mem_of_getElem? (i := 24) rfl)) (j := 14) rfl rfl rfl (zM_P hMξ (hYbξ _ (List.mem_of_getElem? (i := 1) rfl))) ((zp_set_ne (Or.inl (zM_ne hMξ (hYbξ _ (List.mem_of_getElem? (i := 1) rfl)) (hYbξ _ (List.mem_of_getElem? (i := 21) rfl)) (by decide)))).trans ((zp_set_ne (Or.inl (zM_ne hMξ (hYbξ _ (List.mem_of_getElem? (i := 1) rfl)) (hYbξ _ (List.mem_of_getElem? (i := 20) rfl)) (by decide)))).trans ((zp_set_ne (Or.inl (zM_ne hMξ (hYbξ _ (List.mem_of_getElem? (i := 1) rfl)) (hYbξ _ (List.mem_of_getElem? (i := 19) rfl)) (by decide)))).trans (((zM_G hMξ (hYbξ _ (List.mem_of_getElem? (i := 1) rfl)) 7).trans (zM_F hMξ (hFbξ _ (List.mem_of_getElem? (i := 18) rfl)))))))) ?_
    refine zp_load (pc := 43) hx hb (zd_X9_addWork (43, .iload 6, 2, 0, []) (List.mem_of_getElem? (i := 25) rfl)) rfl (j := 0) rfl ?_
    refine zp_load (pc := 45) hx hb (zd_X9_addWork (45, .iload 4, 2, 0, []) (List.mem_of_getElem? (i := 26) rfl)) rfl (j := 5) rfl ?_
    refine zp_iast (j := (V 1 3).toNat) (pc := 47) hx hb hwξ heffξ (zd_X9_addWork (47, .iastore, 1, 0, []) (List.mem_of_getElem? (i := 27) rfl)) (show zp_ia 1 47 = some (10, 0, 0, (-2147483648), 2147483647) from rfl) (zM_P hMξ (hYbξ _ (List.mem_of_getElem? (i := 22) rfl))) (by omega) (by omega) (zp_o0 (by omega) (by omega) (by omega) (by omega)) rfl ?_
    refine zp_load (pc := 48) hx hb (zd_X9_addWork (48, .aload_n 0, 1, 0, []) (List.mem_of_getElem? (i := 28) rfl)) rfl (j := 1) rfl ?_
    refine zp_getf (n := (A 36 : Int)) (pc := 49) hx hb hEξ hwξ (zd_X9_addWork (49, .getfield 30, 3, 0, []) (List.mem_of_getElem? (i := 29) rfl)) (j := 15) rfl rfl rfl (zM_P hMξ (hYbξ _ (List.mem_of_getElem? (i := 1) rfl))) ((zp_set_ne (Or.inl (zM_ne hMξ (hYbξ _ (List.mem_of_getElem? (i := 1) rfl)) (hYbξ _ (List.mem_of_getElem? (i := 22) rfl)) (by decide)))).trans ((zp_set_ne (Or.inl (zM_ne hMξ (hYbξ _ (List.mem_of_getElem? (i := 1) rfl)) (hYbξ _ (List.mem_of_getElem? (i := 21) rfl)) (by decide)))).trans ((zp_set_ne (Or.inl (zM_ne hMξ (hYbξ _ (List.mem_of_getElem? (i := 1) rfl)) (hYbξ _ (List.mem_of_getElem? (i := 20) rfl)) (by decide)))).trans ((zp_set_ne (Or.inl (zM_ne hMξ (hYbξ _ (List.mem_of_getElem? (i := 1) rfl)) (hYbξ _ (List.mem_of_getElem? (i := 19) rfl)) (by decide)))).trans (((zM_G hMξ (hYbξ _ (List.mem_of_getElem? (i := 1) rfl)) 8).trans (zM_F hMξ (hFbξ _ (List.mem_of_getElem? (i := 19) rfl))))))))) ?_
    refine zp_load (pc := 52) hx hb (zd_X9_addWork (52, .iload 6, 2, 0, []) (List.mem_of_getElem? (i := 30) rfl)) rfl (j := 0) rfl ?_
    refine zp_load (pc := 54) hx hb (zd_X9_addWork (54, .iload 5, 2, 0, []) (List.mem_of_getElem? (i := 31) rfl)) rfl (j := 6) rfl ?_
    refine zp_iast (j := (V 1 3).toNat) (pc := 56) hx hb hwξ heffξ (zd_X9_addWork (56, .iastore, 1, 0, []) (List.mem_of_getElem? (i := 32) rfl)) (show zp_ia 1 48 = some (10, 0, 0, (-2147483648), 2147483647) from rfl) (zM_P hMξ (hYbξ _ (List.mem_of_getElem? (i := 23) rfl))) (by omega) (by omega) (zp_o0 (by omega) (by omega) (by omega) (by omega)) rfl ?_
    refine zp_load (pc := 57) hx hb (zd_X9_addWork (57, .aload_n 0, 1, 0, []) (List.mem_of_getElem? (i := 33) rfl)) rfl (j := 1) rfl ?_
    refine zp_getf (n := (A 2 : Int)) (pc := 58) hx hb hEξ hwξ (zd_X9_addWork (58, .getfield 58, 3, 0, []) (List.mem_of_getElem? (i := 34) rfl)) (j := 25) rfl rfl rfl (zM_P hMξ (hYbξ _ (List.mem_of_getElem? (i := 1) rfl))) ((zp_set_ne (Or.inl (zM_ne hMξ (hYbξ _ (List.mem_of_getElem? (i := 1) rfl)) (hYbξ _ (List.mem_of_getElem? (i := 23) rfl)) (by decide)))).trans ((zp_set_ne (Or.inl (zM_ne hMξ (hYbξ _ (List.mem_of_getElem? (i := 1) rfl)) (hYbξ _ (List.mem_of_getElem? (i := 22) rfl)) (by decide)))).trans ((zp_set_ne (Or.inl (zM_ne hMξ (hYbξ _ (List.mem_of_getElem? (i := 1) rfl)) (hYbξ _ (List.mem_of_getElem? (i := 21) rfl)) (by decide)))).trans ((zp_set_ne (Or.inl (zM_ne hMξ (hYbξ _ (List.mem_of_getElem? (i := 1) rfl)) (hYbξ _ (List.mem_of_getElem? (i := 20) rfl)) (by decide)))).trans ((zp_set_ne (Or.inl (zM_ne hMξ (hYbξ _ (List.mem_of_getElem? (i := 1) rfl)) (hYbξ _ (List.mem_of_getElem? (i := 19) rfl)) (by decide)))).trans (((zM_G hMξ (hYbξ _ (List.mem_of_getElem? (i := 1) rfl)) 18).trans (zM_F hMξ (hFbξ _ (List.mem_of_getElem? (i := 24) rfl)))))))))) ?_
    refine zp_getf (n := (A 52 : Int)) (pc := 61) hx hb hEξ hwξ (zd_X9_addWork (61, .getfield 91, 3, 0, []) (List.mem_of_getElem? (i := 35) rfl)) (j := 5) rfl rfl rfl (zM_P hMξ (hYbξ _ (List.mem_of_getElem? (i := 2) rfl))) ((zp_set_ne (Or.inl (zM_ne hMξ (hYbξ _ (List.mem_of_getElem? (i := 2) rfl)) (hYbξ _ (List.mem_of_getElem? (i := 23) rfl)) (by decide)))).trans ((zp_set_ne (Or.inl (zM_ne hMξ (hYbξ _ (List.mem_of_getElem? (i := 2) rfl)) (hYbξ _ (List.mem_of_getElem? (i := 22) rfl)) (by decide)))).trans ((zp_set_ne (Or.inl (zM_ne hMξ (hYbξ _ (List.mem_of_getElem? (i := 2) rfl)) (hYbξ _ (List.mem_of_getElem? (i := 21) rfl)) (by decide)))).trans ((zp_set_ne (Or.inl (zM_ne hMξ (hYbξ _ (List.mem_of_getElem? (i := 2) rfl)) (hYbξ _ (List.mem_of_getElem? (i := 20) rfl)) (by decide)))).trans ((zp_set_ne (Or.inl (zM_ne hMξ (hYbξ _ (List.mem_of_getElem? (i := 2) rfl)) (hYbξ _ (List.mem_of_getElem? (i := 19) rfl)) (by decide)))).trans (((zM_G hMξ (hYbξ _ (List.mem_of_getElem? (i := 2) rfl)) 2).trans (zM_F hMξ (hFbξ _ (List.mem_of_getElem? (i := 27) rfl)))))))))) ?_
    refine zp_load (pc := 64) hx hb (zd_X9_addWork (64, .iload 6, 2, 0, []) (List.mem_of_getElem? (i := 36) rfl)) rfl (j := 0) rfl ?_
    refine zp_const (pc := 66) hx hb (zd_X9_addWork (66, .iconst 0, 1, 0, []) (List.mem_of_getElem? (i := 37) rfl)) rfl rfl ?_
    refine zp_iast (j := (V 1 3).toNat) (pc := 67) hx hb hwξ heffξ (zd_X9_addWork (67, .iastore, 1, 0, []) (List.mem_of_getElem? (i := 38) rfl)) (show zp_ia 1 19 = some (10, 0, 0, (-2147483648), 2147483647) from rfl) (zM_P hMξ (hYbξ _ (List.mem_of_getElem? (i := 30) rfl))) (by omega) (by omega) (zp_o0 (by omega) (by omega) (by omega) (by omega)) rfl ?_
    refine zp_load (pc := 68) hx hb (zd_X9_addWork (68, .aload_n 0, 1, 0, []) (List.mem_of_getElem? (i := 39) rfl)) rfl (j := 1) rfl ?_
    refine zp_dup (pc := 69) hx hb (zd_X9_addWork (69, .dup, 1, 0, []) (List.mem_of_getElem? (i := 40) rfl)) (show (2 : Nat) ≠ 1 by decide) ?_
    refine zp_getf (n := (V 1 3)) (pc := 70) hx hb hEξ hwξ (zd_X9_addWork (70, .getfield 71, 3, 0, []) (List.mem_of_getElem? (i := 41) rfl)) (j := 10) rfl rfl rfl (zM_P hMξ (hYbξ _ (List.mem_of_getElem? (i := 1) rfl))) ((zp_set_ne (Or.inl (zM_ne hMξ (hYbξ _ (List.mem_of_getElem? (i := 1) rfl)) (hYbξ _ (List.mem_of_getElem? (i := 30) rfl)) (by decide)))).trans ((zp_set_ne (Or.inl (zM_ne hMξ (hYbξ _ (List.mem_of_getElem? (i := 1) rfl)) (hYbξ _ (List.mem_of_getElem? (i := 23) rfl)) (by decide)))).trans ((zp_set_ne (Or.inl (zM_ne hMξ (hYbξ _ (List.mem_of_getElem? (i := 1) rfl)) (hYbξ _ (List.mem_of_getElem? (i := 22) rfl)) (by decide)))).trans ((zp_set_ne (Or.inl (zM_ne hMξ (hYbξ _ (List.mem_of_getElem? (i := 1) rfl)) (hYbξ _ (List.mem_of_getElem? (i := 21) rfl)) (by decide)))).trans ((zp_set_ne (Or.inl (zM_ne hMξ (hYbξ _ (List.mem_of_getElem? (i := 1) rfl)) (hYbξ _ (List.mem_of_getElem? (i := 20) rfl)) (by decide)))).trans ((zp_set_ne (Or.inl (zM_ne hMξ (hYbξ _ (List.mem_of_getElem? (i := 1) rfl)) (hYbξ _ (List.mem_of_getElem? (i := 19) rfl)) (by decide)))).trans (((zM_G hMξ (hYbξ _ (List.mem_of_getElem? (i := 1) rfl)) 3).trans (hVξ 1 3 (by decide)))))))))) ?_
    refine zp_const (pc := 73) hx hb (zd_X9_addWork (73, .iconst 1, 1, 0, []) (List.mem_of_getElem? (i := 42) rfl)) rfl rfl ?_
    refine zp_add (n := ((V 1 3) + 1)) (pc := 74) hx hb (zd_X9_addWork (74, .iadd, 1, 0, []) (List.mem_of_getElem? (i := 43) rfl)) (by omega) (zp_r0 (by omega) (by omega)) ?_
    refine zp_putf (pc := 75) hx hb hEξ hwξ heffξ (zd_X9_addWork (75, .putfield 71, 3, 0, []) (List.mem_of_getElem? (i := 44) rfl)) (j := 10) rfl rfl rfl (zM_P hMξ (hYbξ _ (List.mem_of_getElem? (i := 1) rfl))) (zp_o0 (by omega) (by omega) (by omega) (by omega)) ?_
    refine zp_load (pc := 78) hx hb (zd_X9_addWork (78, .iload 6, 2, 0, []) (List.mem_of_getElem? (i := 45) rfl)) rfl (j := 0) rfl ?_
    refine zp_iret (pc := 80) (n := (V 1 3)) hx hb hEξ hQξ hU5ξ rfl (by decide) (zd_X9_addWork (80, .ireturn, 1, 0, []) (List.mem_of_getElem? (i := 46) rfl)) (j := 0) rfl (zp_o0 (by omega) (by omega) (by omega) (by omega)) ?_
    rw [hpsξ]
    refine ⟨rfl, ?_⟩
    have hffξ : zf_adw1 V p1ξ p2ξ p3ξ p4ξ p5ξ = ((V 1 3), (zp_set (zp_set (zp_set (zp_set (zp_set (zp_set (zp_set V 32 (2000 + (V 1 3).toNat) p1ξ) 33 (2000 + (V 1 3).toNat) p2ξ) 34 (2000 + (V 1 3).toNat) p3ξ) 35 (2000 + (V 1 3).toNat) p4ξ) 36 (2000 + (V 1 3).toNat) p5ξ) 52 (2000 + (V 1 3).toNat) 0) 1 3 ((V 1 3) + 1))) := by
      unfold zf_adw1
      rw [if_pos hc52ξ]
    show zMVc A Y F (zf_adw1 V p1ξ p2ξ p3ξ p4ξ p5ξ).2 u.1 (zp_set (zp_set (zp_set (zp_set (zp_set (zp_set (zp_set (zp_n u.2.1) (A 32) (2000 + (V 1 3).toNat) p1ξ) (A 33) (2000 + (V 1 3).toNat) p2ξ) (A 34) (2000 + (V 1 3).toNat) p3ξ) (A 35) (2000 + (V 1 3).toNat) p4ξ) (A 36) (2000 + (V 1 3).toNat) p5ξ) (A 52) (2000 + (V 1 3).toNat) 0) (A 1) 3 ((V 1 3) + 1)) ∧ (V 1 3) = (zf_adw1 V p1ξ p2ξ p3ξ p4ξ p5ξ).1
    rw [hffξ]
    exact ⟨⟨(zp_set (zp_set (zp_set (zp_set (zp_set (zp_set (zp_set M 32 (2000 + (V 1 3).toNat) p1ξ) 33 (2000 + (V 1 3).toNat) p2ξ) 34 (2000 + (V 1 3).toNat) p3ξ) 35 (2000 + (V 1 3).toNat) p4ξ) 36 (2000 + (V 1 3).toNat) p5ξ) 52 (2000 + (V 1 3).toNat) 0) 1 3 ((V 1 3) + 1)), (zM_set (zM_setE (zM_setE (zM_setE (zM_setE (zM_setE (zM_setE hMξ (hYbξ _ (List.mem_of_getElem? (i := 19) rfl))) (hYbξ _ (List.mem_of_getElem? (i := 20) rfl))) (hYbξ _ (List.mem_of_getElem? (i := 21) rfl))) (hYbξ _ (List.mem_of_getElem? (i := 22) rfl))) (hYbξ _ (List.mem_of_getElem? (i := 23) rfl))) (hYbξ _ (List.mem_of_getElem? (i := 30) rfl))) (hYbξ _ (List.mem_of_getElem? (i := 1) rfl)) (zFx hFxξ (o := 1) (k := 3) (by decide) (by decide))), (zV_set (zV_set (zV_set (zV_set (zV_set (zV_set (zV_set hVξ))))))), trivial⟩, rfl⟩
  · refine zp_const (pc := 13) hx hb (zd_X9_addWork (13, .iconst (-1), 1, 0, []) (List.mem_of_getElem? (i := 6) rfl)) rfl rfl ?_
    refine zp_iret (pc := 14) (n := (-1)) hx hb hEξ hQξ hU5ξ rfl (by decide) (zd_X9_addWork (14, .ireturn, 1, 0, []) (List.mem_of_getElem? (i := 7) rfl)) (j := 0) rfl (zp_o0 (by omega) (by omega) (by omega) (by omega)) ?_
    rw [hpsξ]
    refine ⟨rfl, ?_⟩
    have hffξ : zf_adw1 V p1ξ p2ξ p3ξ p4ξ p5ξ = ((-1), V) := by
      unfold zf_adw1
      rw [if_neg hc52ξ]
    show zMVc A Y F (zf_adw1 V p1ξ p2ξ p3ξ p4ξ p5ξ).2 u.1 (zp_n u.2.1) ∧ (-1) = (zf_adw1 V p1ξ p2ξ p3ξ p4ξ p5ξ).1
    rw [hffξ]
    exact ⟨⟨M, hMξ, hVξ, trivial⟩, rfl⟩
theorem zf_adw1_f {V : Nat → Nat → Int} {p1ξ : Int} {p2ξ : Int} {p3ξ : Int} {p4ξ : Int} {p5ξ : Int} {o k : Nat} (h9ξ : o ∉ ([1, 32, 33, 34, 35, 36, 52] : List Nat)) : (zf_adw1 V p1ξ p2ξ p3ξ p4ξ p5ξ).2 o k = V o k := by
  unfold zf_adw1
  by_cases hd2ξ : (V 1 3) < 10
  · rw [if_pos hd2ξ]
    show (zp_set (zp_set (zp_set (zp_set (zp_set (zp_set (zp_set V 32 (2000 + (V 1 3).toNat) p1ξ) 33 (2000 + (V 1 3).toNat) p2ξ) 34 (2000 + (V 1 3).toNat) p3ξ) 35 (2000 + (V 1 3).toNat) p4ξ) 36 (2000 + (V 1 3).toNat) p5ξ) 52 (2000 + (V 1 3).toNat) 0) 1 3 ((V 1 3) + 1)) o k = V o k
    exact ((zp_set_ne (Or.inl (zc_nin h9ξ (by decide)))).trans ((zp_set_ne (Or.inl (zc_nin h9ξ (by decide)))).trans ((zp_set_ne (Or.inl (zc_nin h9ξ (by decide)))).trans ((zp_set_ne (Or.inl (zc_nin h9ξ (by decide)))).trans ((zp_set_ne (Or.inl (zc_nin h9ξ (by decide)))).trans ((zp_set_ne (Or.inl (zc_nin h9ξ (by decide)))).trans (zp_set_ne (Or.inl (zc_nin h9ξ (by decide))))))))))
  · rw [if_neg hd2ξ]
noncomputable def zf_ads1 (V : Nat → Nat → Int) (p1ξ : Int) (p2ξ : Int) (p3ξ : Int) : Int × (Nat → Nat → Int) := if (V 1 9) < 8 then (0, (zp_set (zp_set (zp_set (zp_set V 37 (2000 + (V 1 9).toNat) p1ξ) 38 (2000 + (V 1 9).toNat) p2ξ) 39 (2000 + (V 1 9).toNat) p3ξ) 1 9 ((V 1 9) + 1))) else (0, V)
noncomputable def zK_ads1 : zk_K := (zt_mn 152, prog_11_method_9_code, 4, (Option.none : Option Jvm.ClassFile.FieldType), 1, 9, [(2, 10, 0, 0), (0, 0, (-2147483648), 2147483647), (0, 0, (-2147483648), 2147483647), (0, 0, (-2147483648), 2147483647)], [(none, [])], zUC, (0, 0, 0, 0))
noncomputable def zφ_ads1 (A : Nat → Nat) (Y : List (Nat × Nat)) (F : List (Nat × Nat × Nat)) (V : Nat → Nat → Int) : (Nat → Option Nat) → (Nat → Nat → Int) → List Int → Prop := fun P G ps => zMVc A Y F V P G ∧ ps.getD 0 0 = (A 1 : Int) ∧ zMc Y F
noncomputable def zψ_ads1 (A : Nat → Nat) (Y : List (Nat × Nat)) (F : List (Nat × Nat × Nat)) (V : Nat → Nat → Int) : (Nat → Option Nat) → (Nat → Nat → Int) → List Int → (Nat → Option Nat) → (Nat → Nat → Int) → Int → Prop := fun P G ps P' G' rn => P' = P ∧ zMVc A Y F (zf_ads1 V (ps.getD 1 0) (ps.getD 2 0) (ps.getD 3 0)).2 P' G'
theorem zX_ads1 {l : Launch} {w : zk_W} (hWξ : zh_W w) (A : Nat → Nat) (Y : List (Nat × Nat)) (F : List (Nat × Nat × Nat)) (V : Nat → Nat → Int) : zk_metX l w zt_dv zt_TB zK_ads1 (zp_A (zφ_ads1 A Y F V)) (zp_B (zψ_ads1 A Y F V)) ∧ zk_cok w zt_TB zK_ads1 := by
  refine zp_methX (cn := "WoundTown$Town") zp_lkallN hWξ (pl := 1207) rfl (by decide +kernel) (fun p e R s m args below meth c Q u hx hb hEξ hQξ hU5ξ heffξ hnLξ hokξ hφ => ?_)
  have hwξ := hWξ.1
  obtain ⟨p0ξ, p1ξ, p2ξ, p3ξ, hpsξ, tk0, tk1, tk2, tk3⟩ := zp_ps4 hokξ
  have hrmξ : zk_Kr (zk_ev (zt_types, zp_lkN, zt_dv, [], [], zp_lcN, zK_ads1)) = zk_Kr zK_ads1 := rfl
  rw [hpsξ] at hφ ⊢
  have hφ : zMVc A Y F V u.1 (zp_n u.2.1) ∧ p0ξ = (A 1 : Int) ∧ zMc Y F := hφ
  obtain ⟨⟨M, hMξ, hVξ, hSbξ⟩, rfl, hYFξ⟩ := hφ
  have hYF0ξ := hYFξ
  obtain ⟨hYbξ, hFbξ, hFxξ, -⟩ := hYFξ
  have hi1ξ := zp_int tk1
  have hi2ξ := zp_int tk2
  have hi3ξ := zp_int tk3
  show zp_J p l e R s m args below meth c Q w u [] 0 [(0, 2, (A 1 : Int)), (1, 0, p1ξ), (2, 0, p2ξ), (3, 0, p3ξ)] [] u.1 (zp_n u.2.1)
  refine zp_load (pc := 0) hx hb (zd_X9_addSight (0, .aload_n 0, 1, 0, []) (List.mem_of_getElem? (i := 0) rfl)) rfl (j := 0) rfl ?_
  refine zp_getf (n := (V 1 9)) (pc := 1) hx hb hEξ hwξ (zd_X9_addSight (1, .getfield 74, 3, 0, []) (List.mem_of_getElem? (i := 1) rfl)) (j := 16) rfl rfl rfl (zM_P hMξ (hYbξ _ (List.mem_of_getElem? (i := 1) rfl))) ((zM_G hMξ (hYbξ _ (List.mem_of_getElem? (i := 1) rfl)) 9).trans (hVξ 1 9 (by decide))) ?_
  refine zp_kn (k := 9) (a := (A 1)) hwξ (show zp_fd 10 9 = some (9, 0, 0, 0, 8) from rfl) rfl (zM_P hMξ (hYbξ _ (List.mem_of_getElem? (i := 1) rfl))) (fun hf53ξ => ?_)
  have hf53bξ := zp_int hf53ξ
  rw [((zM_G hMξ (hYbξ _ (List.mem_of_getElem? (i := 1) rfl)) 9).trans (hVξ 1 9 (by decide)))] at hf53bξ
  clear hf53ξ
  refine zp_const (pc := 4) hx hb (zd_X9_addSight (4, .bipush 8, 2, 0, []) (List.mem_of_getElem? (i := 2) rfl)) rfl rfl ?_
  refine zp_icmp (pc := 6) (tgt := 10) hx hb (zd_X9_addSight (6, .if_icmp .lt 4, 3, 0, []) (List.mem_of_getElem? (i := 3) rfl)) rfl (fun (hc54ξ : (V 1 9) < 8) => ?_) (fun (hc54ξ : ¬ ((V 1 9) < 8)) => ?_)
  · refine zp_load (pc := 10) hx hb (zd_X9_addSight (10, .aload_n 0, 1, 0, []) (List.mem_of_getElem? (i := 5) rfl)) rfl (j := 0) rfl ?_
    refine zp_getf (n := (A 37 : Int)) (pc := 11) hx hb hEξ hwξ (zd_X9_addSight (11, .getfield 33, 3, 0, []) (List.mem_of_getElem? (i := 6) rfl)) (j := 17) rfl rfl rfl (zM_P hMξ (hYbξ _ (List.mem_of_getElem? (i := 1) rfl))) ((zM_G hMξ (hYbξ _ (List.mem_of_getElem? (i := 1) rfl)) 10).trans (zM_F hMξ (hFbξ _ (List.mem_of_getElem? (i := 20) rfl)))) ?_
    refine zp_load (pc := 14) hx hb (zd_X9_addSight (14, .aload_n 0, 1, 0, []) (List.mem_of_getElem? (i := 7) rfl)) rfl (j := 0) rfl ?_
    refine zp_getf (n := (V 1 9)) (pc := 15) hx hb hEξ hwξ (zd_X9_addSight (15, .getfield 74, 3, 0, []) (List.mem_of_getElem? (i := 8) rfl)) (j := 16) rfl rfl rfl (zM_P hMξ (hYbξ _ (List.mem_of_getElem? (i := 1) rfl))) ((zM_G hMξ (hYbξ _ (List.mem_of_getElem? (i := 1) rfl)) 9).trans (hVξ 1 9 (by decide))) ?_
    refine zp_load (pc := 18) hx hb (zd_X9_addSight (18, .iload_n 1, 1, 0, []) (List.mem_of_getElem? (i := 9) rfl)) rfl (j := 1) rfl ?_
    refine zp_iast (j := (V 1 9).toNat) (pc := 19) hx hb hwξ heffξ (zd_X9_addSight (19, .iastore, 1, 0, []) (List.mem_of_getElem? (i := 10) rfl)) (show zp_ia 1 49 = some (8, 0, 0, (-2147483648), 2147483647) from rfl) (zM_P hMξ (hYbξ _ (List.mem_of_getElem? (i := 24) rfl))) (by omega) (by omega) (zp_o0 (by omega) (by omega) (by omega) (by omega)) rfl ?_
    refine zp_load (pc := 20) hx hb (zd_X9_addSight (20, .aload_n 0, 1, 0, []) (List.mem_of_getElem? (i := 11) rfl)) rfl (j := 0) rfl ?_
    refine zp_getf (n := (A 38 : Int)) (pc := 21) hx hb hEξ hwξ (zd_X9_addSight (21, .getfield 36, 3, 0, []) (List.mem_of_getElem? (i := 12) rfl)) (j := 18) rfl rfl rfl (zM_P hMξ (hYbξ _ (List.mem_of_getElem? (i := 1) rfl))) ((zp_set_ne (Or.inl (zM_ne hMξ (hYbξ _ (List.mem_of_getElem? (i := 1) rfl)) (hYbξ _ (List.mem_of_getElem? (i := 24) rfl)) (by decide)))).trans (((zM_G hMξ (hYbξ _ (List.mem_of_getElem? (i := 1) rfl)) 11).trans (zM_F hMξ (hFbξ _ (List.mem_of_getElem? (i := 21) rfl)))))) ?_
    refine zp_load (pc := 24) hx hb (zd_X9_addSight (24, .aload_n 0, 1, 0, []) (List.mem_of_getElem? (i := 13) rfl)) rfl (j := 0) rfl ?_
    refine zp_getf (n := (V 1 9)) (pc := 25) hx hb hEξ hwξ (zd_X9_addSight (25, .getfield 74, 3, 0, []) (List.mem_of_getElem? (i := 14) rfl)) (j := 16) rfl rfl rfl (zM_P hMξ (hYbξ _ (List.mem_of_getElem? (i := 1) rfl))) ((zp_set_ne (Or.inl (zM_ne hMξ (hYbξ _ (List.mem_of_getElem? (i := 1) rfl)) (hYbξ _ (List.mem_of_getElem? (i := 24) rfl)) (by decide)))).trans (((zM_G hMξ (hYbξ _ (List.mem_of_getElem? (i := 1) rfl)) 9).trans (hVξ 1 9 (by decide))))) ?_
    refine zp_load (pc := 28) hx hb (zd_X9_addSight (28, .iload_n 2, 1, 0, []) (List.mem_of_getElem? (i := 15) rfl)) rfl (j := 2) rfl ?_
    refine zp_iast (j := (V 1 9).toNat) (pc := 29) hx hb hwξ heffξ (zd_X9_addSight (29, .iastore, 1, 0, []) (List.mem_of_getElem? (i := 16) rfl)) (show zp_ia 1 50 = some (8, 0, 0, (-2147483648), 2147483647) from rfl) (zM_P hMξ (hYbξ _ (List.mem_of_getElem? (i := 25) rfl))) (by omega) (by omega) (zp_o0 (by omega) (by omega) (by omega) (by omega)) rfl ?_
    refine zp_load (pc := 30) hx hb (zd_X9_addSight (30, .aload_n 0, 1, 0, []) (List.mem_of_getElem? (i := 17) rfl)) rfl (j := 0) rfl ?_
    refine zp_getf (n := (A 39 : Int)) (pc := 31) hx hb hEξ hwξ (zd_X9_addSight (31, .getfield 39, 3, 0, []) (List.mem_of_getElem? (i := 18) rfl)) (j := 19) rfl rfl rfl (zM_P hMξ (hYbξ _ (List.mem_of_getElem? (i := 1) rfl))) ((zp_set_ne (Or.inl (zM_ne hMξ (hYbξ _ (List.mem_of_getElem? (i := 1) rfl)) (hYbξ _ (List.mem_of_getElem? (i := 25) rfl)) (by decide)))).trans ((zp_set_ne (Or.inl (zM_ne hMξ (hYbξ _ (List.mem_of_getElem? (i := 1) rfl)) (hYbξ _ (List.mem_of_getElem? (i := 24) rfl)) (by decide)))).trans (((zM_G hMξ (hYbξ _ (List.mem_of_getElem? (i := 1) rfl)) 12).trans (zM_F hMξ (hFbξ _ (List.mem_of_getElem? (i := 22) rfl))))))) ?_
    refine zp_load (pc := 34) hx hb (zd_X9_addSight (34, .aload_n 0, 1, 0, []) (List.mem_of_getElem? (i := 19) rfl)) rfl (j := 0) rfl ?_
    refine zp_getf (n := (V 1 9)) (pc := 35) hx hb hEξ hwξ (zd_X9_addSight (35, .getfield 74, 3, 0, []) (List.mem_of_getElem? (i := 20) rfl)) (j := 16) rfl rfl rfl (zM_P hMξ (hYbξ _ (List.mem_of_getElem? (i := 1) rfl))) ((zp_set_ne (Or.inl (zM_ne hMξ (hYbξ _ (List.mem_of_getElem? (i := 1) rfl)) (hYbξ _ (List.mem_of_getElem? (i := 25) rfl)) (by decide)))).trans ((zp_set_ne (Or.inl (zM_ne hMξ (hYbξ _ (List.mem_of_getElem? (i := 1) rfl)) (hYbξ _ (List.mem_of_getElem? (i := 24) rfl)) (by decide)))).trans (((zM_G hMξ (hYbξ _ (List.mem_of_getElem? (i := 1) rfl)) 9).trans (hVξ 1 9 (by decide)))))) ?_
    refine zp_load (pc := 38) hx hb (zd_X9_addSight (38, .iload_n 3, 1, 0, []) (List.mem_of_getElem? (i := 21) rfl)) rfl (j := 3) rfl ?_
    refine zp_iast (j := (V 1 9).toNat) (pc := 39) hx hb hwξ heffξ (zd_X9_addSight (39, .iastore, 1, 0, []) (List.mem_of_getElem? (i := 22) rfl)) (show zp_ia 1 51 = some (8, 0, 0, (-2147483648), 2147483647) from rfl) (zM_P hMξ (hYbξ _ (List.mem_of_getElem? (i := 26) rfl))) (by omega) (by omega) (zp_o0 (by omega) (by omega) (by omega) (by omega)) rfl ?_
    refine zp_load (pc := 40) hx hb (zd_X9_addSight (40, .aload_n 0, 1, 0, []) (List.mem_of_getElem? (i := 23) rfl)) rfl (j := 0) rfl ?_
    refine zp_dup (pc := 41) hx hb (zd_X9_addSight (41, .dup, 1, 0, []) (List.mem_of_getElem? (i := 24) rfl)) (show (2 : Nat) ≠ 1 by decide) ?_
    refine zp_getf (n := (V 1 9)) (pc := 42) hx hb hEξ hwξ (zd_X9_addSight (42, .getfield 74, 3, 0, []) (List.mem_of_getElem? (i := 25) rfl)) (j := 16) rfl rfl rfl (zM_P hMξ (hYbξ _ (List.mem_of_getElem? (i := 1) rfl))) ((zp_set_ne (Or.inl (zM_ne hMξ (hYbξ _ (List.mem_of_getElem? (i := 1) rfl)) (hYbξ _ (List.mem_of_getElem? (i := 26) rfl)) (by decide)))).trans ((zp_set_ne (Or.inl (zM_ne hMξ (hYbξ _ (List.mem_of_getElem? (i := 1) rfl)) (hYbξ _ (List.mem_of_getElem? (i := 25) rfl)) (by decide)))).trans ((zp_set_ne (Or.inl (zM_ne hMξ (hYbξ _ (List.mem_of_getElem? (i := 1) rfl)) (hYbξ _ (List.mem_of_getElem? (i := 24) rfl)) (by decide)))).trans (((zM_G hMξ (hYbξ _ (List.mem_of_getElem? (i := 1) rfl)) 9).trans (hVξ 1 9 (by decide))))))) ?_
    refine zp_const (pc := 45) hx hb (zd_X9_addSight (45, .iconst 1, 1, 0, []) (List.mem_of_getElem? (i := 26) rfl)) rfl rfl ?_
    refine zp_add (n := ((V 1 9) + 1)) (pc := 46) hx hb (zd_X9_addSight (46, .iadd, 1, 0, []) (List.mem_of_getElem? (i := 27) rfl)) (by omega) (zp_r0 (by omega) (by omega)) ?_
    refine zp_putf (pc := 47) hx hb hEξ hwξ heffξ (zd_X9_addSight (47, .putfield 74, 3, 0, []) (List.mem_of_getElem? (i := 28) rfl)) (j := 16) rfl rfl rfl (zM_P hMξ (hYbξ _ (List.mem_of_getElem? (i := 1) rfl))) (zp_o0 (by omega) (by omega) (by omega) (by omega)) ?_
    refine zp_vret (pc := 50) hx hb hEξ hQξ hU5ξ rfl (by decide) (zd_X9_addSight (50, .return_, 1, 0, []) (List.mem_of_getElem? (i := 29) rfl)) (j := 0) rfl ?_
    rw [hpsξ]
    refine ⟨rfl, ?_⟩
    have hffξ : zf_ads1 V p1ξ p2ξ p3ξ = (0, (zp_set (zp_set (zp_set (zp_set V 37 (2000 + (V 1 9).toNat) p1ξ) 38 (2000 + (V 1 9).toNat) p2ξ) 39 (2000 + (V 1 9).toNat) p3ξ) 1 9 ((V 1 9) + 1))) := by
      unfold zf_ads1
      rw [if_pos hc54ξ]
    show zMVc A Y F (zf_ads1 V p1ξ p2ξ p3ξ).2 u.1 (zp_set (zp_set (zp_set (zp_set (zp_n u.2.1) (A 37) (2000 + (V 1 9).toNat) p1ξ) (A 38) (2000 + (V 1 9).toNat) p2ξ) (A 39) (2000 + (V 1 9).toNat) p3ξ) (A 1) 9 ((V 1 9) + 1))
    rw [hffξ]
    exact ⟨(zp_set (zp_set (zp_set (zp_set M 37 (2000 + (V 1 9).toNat) p1ξ) 38 (2000 + (V 1 9).toNat) p2ξ) 39 (2000 + (V 1 9).toNat) p3ξ) 1 9 ((V 1 9) + 1)), (zM_set (zM_setE (zM_setE (zM_setE hMξ (hYbξ _ (List.mem_of_getElem? (i := 24) rfl))) (hYbξ _ (List.mem_of_getElem? (i := 25) rfl))) (hYbξ _ (List.mem_of_getElem? (i := 26) rfl))) (hYbξ _ (List.mem_of_getElem? (i := 1) rfl)) (zFx hFxξ (o := 1) (k := 9) (by decide) (by decide))), (zV_set (zV_set (zV_set (zV_set hVξ)))), trivial⟩
  · refine zp_vret (pc := 9) hx hb hEξ hQξ hU5ξ rfl (by decide) (zd_X9_addSight (9, .return_, 1, 0, []) (List.mem_of_getElem? (i := 4) rfl)) (j := 0) rfl ?_
    rw [hpsξ]
    refine ⟨rfl, ?_⟩
    have hffξ : zf_ads1 V p1ξ p2ξ p3ξ = (0, V) := by
      unfold zf_ads1
      rw [if_neg hc54ξ]
    show zMVc A Y F (zf_ads1 V p1ξ p2ξ p3ξ).2 u.1 (zp_n u.2.1)
    rw [hffξ]
    exact ⟨M, hMξ, hVξ, trivial⟩
noncomputable def zf_roac (V : Nat → Nat → Int) (p1ξ : Int) (p2ξ : Int) (p3ξ : Int) : Int × (Nat → Nat → Int) := if 0 ≤ p1ξ ∧ p1ξ ≤ 7 then if 0 ≤ p2ξ ∧ p2ξ ≤ 7 then if p1ξ = p2ξ then (((zf_rfs V (-1)).1), (zf_rfs V (-1)).2) else if 0 ≤ p3ξ ∧ p3ξ ≤ 99 then (((zf_ans (zp_set (zp_set V 30 (2000 + (8 * p1ξ.toNat + p2ξ.toNat)) p3ξ) 30 (2000 + (8 * p2ξ.toNat + p1ξ.toNat)) p3ξ) (V 30 (2000 + (8 * p1ξ.toNat + p2ξ.toNat)))).1), (zf_ans (zp_set (zp_set V 30 (2000 + (8 * p1ξ.toNat + p2ξ.toNat)) p3ξ) 30 (2000 + (8 * p2ξ.toNat + p1ξ.toNat)) p3ξ) (V 30 (2000 + (8 * p1ξ.toNat + p2ξ.toNat)))).2) else (((zf_rfs V (-1)).1), (zf_rfs V (-1)).2) else (((zf_rfs V (-1)).1), (zf_rfs V (-1)).2) else (((zf_rfs V (-1)).1), (zf_rfs V (-1)).2)
noncomputable def zK_roac : zk_K := (zt_mn 14, prog_1_method_2_code, 5, (Option.some Jvm.ClassFile.FieldType.int), 1, 11, [(2, 12, 0, 0), (0, 0, (-2147483648), 2147483647), (0, 0, (-2147483648), 2147483647), (0, 0, (-2147483648), 2147483647)], [(some (0, 0, (-2147483648), 2147483647), [])], zUC, (2, 180, 0, 0))
noncomputable def zφ_roac (A : Nat → Nat) (Y : List (Nat × Nat)) (F : List (Nat × Nat × Nat)) (V : Nat → Nat → Int) : (Nat → Option Nat) → (Nat → Nat → Int) → List Int → Prop := fun P G ps => zMVc A Y F V P G ∧ ps.getD 0 0 = (A 0 : Int) ∧ zMc Y F
noncomputable def zψ_roac (A : Nat → Nat) (Y : List (Nat × Nat)) (F : List (Nat × Nat × Nat)) (V : Nat → Nat → Int) : (Nat → Option Nat) → (Nat → Nat → Int) → List Int → (Nat → Option Nat) → (Nat → Nat → Int) → Int → Prop := fun P G ps P' G' rn => P' = P ∧ zMVc A Y F (zf_roac V (ps.getD 1 0) (ps.getD 2 0) (ps.getD 3 0)).2 P' G' ∧ rn = (zf_roac V (ps.getD 1 0) (ps.getD 2 0) (ps.getD 3 0)).1
theorem zX_roac {l : Launch} {w : zk_W} (hWξ : zh_W w) (A : Nat → Nat) (Y : List (Nat × Nat)) (F : List (Nat × Nat × Nat)) (V : Nat → Nat → Int) : zk_metX l w zt_dv zt_TB zK_roac (zp_A (zφ_roac A Y F V)) (zp_B (zψ_roac A Y F V)) ∧ zk_cok w zt_TB zK_roac := by
  refine zp_methX (cn := "WoundTown") zp_lkallW hWξ (pl := 604) rfl (by decide +kernel) (fun p e R s m args below meth c Q u hx hb hEξ hQξ hU5ξ heffξ hnLξ hokξ hφ => ?_)
  have hwξ := hWξ.1
  obtain ⟨p0ξ, p1ξ, p2ξ, p3ξ, hpsξ, tk0, tk1, tk2, tk3⟩ := zp_ps4 hokξ
  have hrmξ : zk_Kr (zk_ev (zt_types, zp_lkW, zt_dv, [], [], zp_lcW, zK_roac)) = zk_Kr zK_roac := rfl
  rw [hpsξ] at hφ ⊢
  have hφ : zMVc A Y F V u.1 (zp_n u.2.1) ∧ p0ξ = (A 0 : Int) ∧ zMc Y F := hφ
  obtain ⟨⟨M, hMξ, hVξ, hSbξ⟩, rfl, hYFξ⟩ := hφ
  have hYF0ξ := hYFξ
  obtain ⟨hYbξ, hFbξ, hFxξ, -⟩ := hYFξ
  have hi1ξ := zp_int tk1
  have hi2ξ := zp_int tk2
  have hi3ξ := zp_int tk3
  show zp_J p l e R s m args below meth c Q w u [] 0 [(0, 2, (A 0 : Int)), (1, 0, p1ξ), (2, 0, p2ξ), (3, 0, p3ξ)] [] u.1 (zp_n u.2.1)
  refine zp_load (pc := 0) hx hb (zd_X11_road (0, .iload_n 1, 1, 0, []) (List.mem_of_getElem? (i := 0) rfl)) rfl (j := 1) rfl ?_
  refine zp_const (pc := 1) hx hb (zd_X11_road (1, .iconst 0, 1, 0, []) (List.mem_of_getElem? (i := 1) rfl)) rfl rfl ?_
  refine zp_const (pc := 2) hx hb (zd_X11_road (2, .bipush 7, 2, 0, []) (List.mem_of_getElem? (i := 2) rfl)) rfl rfl ?_
  refine zp_call (pc := 4) (how := 1) (idx := 107) (mi := 15) (S := []) hx hb hEξ hwξ heffξ hrmξ (zX_iwn hWξ) rfl (j := 10) rfl rfl (by decide +kernel) (zd_X11_road (4, .invokestatic 107, 3, 0, []) (List.mem_of_getElem? (i := 3) rfl)) [p1ξ, 0, 7] rfl ⟨zp_o0 (by omega) (by omega) (by omega) (by omega), zp_o0 (by omega) (by omega) (by omega) (by omega), zp_o0 (by omega) (by omega) (by omega) (by omega), trivial⟩ (Nat.le_of_ble_eq_true rfl) trivial (fun al halξ rnn55ξ Pn55 Gn55 hextn55ξ hfrn55ξ hokn55ξ hcsn55ξ hpsin55ξ => ?_)
  obtain rfl := List.mem_singleton.mp halξ
  have hrn55ξ := zp_int (hokn55ξ _ rfl).1
  obtain ⟨hPen55ξ, hGen55ξ, htn55ξ⟩ := hpsin55ξ
  rw [hPen55ξ, hGen55ξ]
  clear hextn55ξ hfrn55ξ hcsn55ξ hPen55ξ hGen55ξ
  have htn55ξ : rnn55ξ = 1 ↔ 0 ≤ p1ξ ∧ p1ξ ≤ 7 := htn55ξ
  refine zp_if (pc := 7) (tgt := 35) hx hb (zd_X11_road (7, .ifCond .eq 28, 3, 0, []) (List.mem_of_getElem? (i := 4) rfl)) rfl (fun (hc56ξ : rnn55ξ = 0) => ?_) (fun (hc56ξ : ¬ (rnn55ξ = 0)) => ?_)
  · have hbf57ξ : ¬ (0 ≤ p1ξ ∧ p1ξ ≤ 7) := fun h9ξ => absurd ((Iff.mpr htn55ξ) h9ξ) (by omega)
    refine zp_load (pc := 35) hx hb (zd_X11_road (35, .aload_n 0, 1, 0, []) (List.mem_of_getElem? (i := 18) rfl)) rfl (j := 0) rfl ?_
    refine zp_const (pc := 36) hx hb (zd_X11_road (36, .iconst (-1), 1, 0, []) (List.mem_of_getElem? (i := 19) rfl)) rfl rfl ?_
    refine zp_call (pc := 37) (how := 0) (idx := 111) (mi := 16) (S := []) hx hb hEξ hwξ heffξ hrmξ (zX_rfs hWξ A Y F V) rfl (j := 11) rfl rfl (by decide +kernel) (zd_X11_road (37, .invokevirtual 111, 3, 0, []) (List.mem_of_getElem? (i := 20) rfl)) [(A 0 : Int), (-1)] rfl ⟨zp_o2 (zM_P hMξ (hYbξ _ (List.mem_of_getElem? (i := 0) rfl))), zp_o0 (by omega) (by omega) (by omega) (by omega), trivial⟩ (Nat.le_of_ble_eq_true rfl) ⟨⟨M, hMξ, hVξ, trivial⟩, rfl, hYF0ξ⟩ (fun al halξ rna59ξ Pa59 Ga59 hexta59ξ hfra59ξ hoka59ξ hcsa59ξ hpsia59ξ => ?_)
    obtain rfl := List.mem_singleton.mp halξ
    have hra59ξ := zp_int (hoka59ξ _ rfl).1
    obtain ⟨hPea59ξ, ⟨Ma59, hMa59ξ, hVa59ξ, hSba59ξ⟩, hta59ξ⟩ := hpsia59ξ
    subst hPea59ξ
    clear hexta59ξ hfra59ξ hcsa59ξ hoka59ξ
    have hVa59ξ : ∀ o k, zNc o → Ma59 o k = (zf_rfs V (-1)).2 o k := hVa59ξ
    have hta59ξ : rna59ξ = ((zf_rfs V (-1)).1) := hta59ξ
    have hta59ξ := (Eq.symm hta59ξ)
    subst hta59ξ
    refine zp_iret (pc := 40) (n := ((zf_rfs V (-1)).1)) hx hb hEξ hQξ hU5ξ rfl (by decide) (zd_X11_road (40, .ireturn, 1, 0, []) (List.mem_of_getElem? (i := 21) rfl)) (j := 0) rfl (zp_o0 (by omega) (by omega) (by omega) (by omega)) ?_
    rw [hpsξ]
    refine ⟨rfl, ?_⟩
    have hffξ : zf_roac V p1ξ p2ξ p3ξ = (((zf_rfs V (-1)).1), (zf_rfs V (-1)).2) := by
      unfold zf_roac
      rw [if_neg (fun h9ξ => absurd ((Iff.mpr htn55ξ) h9ξ) (by omega))]
    show zMVc A Y F (zf_roac V p1ξ p2ξ p3ξ).2 u.1 Ga59 ∧ ((zf_rfs V (-1)).1) = (zf_roac V p1ξ p2ξ p3ξ).1
    rw [hffξ]
    exact ⟨⟨Ma59, hMa59ξ, hVa59ξ, trivial⟩, rfl⟩
  · have hbt58ξ := (Iff.mp htn55ξ) (by omega)
    refine zp_load (pc := 10) hx hb (zd_X11_road (10, .iload_n 2, 1, 0, []) (List.mem_of_getElem? (i := 5) rfl)) rfl (j := 2) rfl ?_
    refine zp_const (pc := 11) hx hb (zd_X11_road (11, .iconst 0, 1, 0, []) (List.mem_of_getElem? (i := 6) rfl)) rfl rfl ?_
    refine zp_const (pc := 12) hx hb (zd_X11_road (12, .bipush 7, 2, 0, []) (List.mem_of_getElem? (i := 7) rfl)) rfl rfl ?_
    refine zp_call (pc := 14) (how := 1) (idx := 107) (mi := 15) (S := []) hx hb hEξ hwξ heffξ hrmξ (zX_iwn hWξ) rfl (j := 10) rfl rfl (by decide +kernel) (zd_X11_road (14, .invokestatic 107, 3, 0, []) (List.mem_of_getElem? (i := 8) rfl)) [p2ξ, 0, 7] rfl ⟨zp_o0 (by omega) (by omega) (by omega) (by omega), zp_o0 (by omega) (by omega) (by omega) (by omega), zp_o0 (by omega) (by omega) (by omega) (by omega), trivial⟩ (Nat.le_of_ble_eq_true rfl) trivial (fun al halξ rnn60ξ Pn60 Gn60 hextn60ξ hfrn60ξ hokn60ξ hcsn60ξ hpsin60ξ => ?_)
    obtain rfl := List.mem_singleton.mp halξ
    have hrn60ξ := zp_int (hokn60ξ _ rfl).1
    obtain ⟨hPen60ξ, hGen60ξ, htn60ξ⟩ := hpsin60ξ
    rw [hPen60ξ, hGen60ξ]
    clear hextn60ξ hfrn60ξ hcsn60ξ hPen60ξ hGen60ξ
    have htn60ξ : rnn60ξ = 1 ↔ 0 ≤ p2ξ ∧ p2ξ ≤ 7 := htn60ξ
    refine zp_if (pc := 17) (tgt := 35) hx hb (zd_X11_road (17, .ifCond .eq 18, 3, 0, []) (List.mem_of_getElem? (i := 9) rfl)) rfl (fun (hc61ξ : rnn60ξ = 0) => ?_) (fun (hc61ξ : ¬ (rnn60ξ = 0)) => ?_)
    · have hbf62ξ : ¬ (0 ≤ p2ξ ∧ p2ξ ≤ 7) := fun h9ξ => absurd ((Iff.mpr htn60ξ) h9ξ) (by omega)
      refine zp_load (pc := 35) hx hb (zd_X11_road (35, .aload_n 0, 1, 0, []) (List.mem_of_getElem? (i := 18) rfl)) rfl (j := 0) rfl ?_
      refine zp_const (pc := 36) hx hb (zd_X11_road (36, .iconst (-1), 1, 0, []) (List.mem_of_getElem? (i := 19) rfl)) rfl rfl ?_
      refine zp_call (pc := 37) (how := 0) (idx := 111) (mi := 16) (S := []) hx hb hEξ hwξ heffξ hrmξ (zX_rfs hWξ A Y F V) rfl (j := 11) rfl rfl (by decide +kernel) (zd_X11_road (37, .invokevirtual 111, 3, 0, []) (List.mem_of_getElem? (i := 20) rfl)) [(A 0 : Int), (-1)] rfl ⟨zp_o2 (zM_P hMξ (hYbξ _ (List.mem_of_getElem? (i := 0) rfl))), zp_o0 (by omega) (by omega) (by omega) (by omega), trivial⟩ (Nat.le_of_ble_eq_true rfl) ⟨⟨M, hMξ, hVξ, trivial⟩, rfl, hYF0ξ⟩ (fun al halξ rna64ξ Pa64 Ga64 hexta64ξ hfra64ξ hoka64ξ hcsa64ξ hpsia64ξ => ?_)
      obtain rfl := List.mem_singleton.mp halξ
      have hra64ξ := zp_int (hoka64ξ _ rfl).1
      obtain ⟨hPea64ξ, ⟨Ma64, hMa64ξ, hVa64ξ, hSba64ξ⟩, hta64ξ⟩ := hpsia64ξ
      subst hPea64ξ
      clear hexta64ξ hfra64ξ hcsa64ξ hoka64ξ
      have hVa64ξ : ∀ o k, zNc o → Ma64 o k = (zf_rfs V (-1)).2 o k := hVa64ξ
      have hta64ξ : rna64ξ = ((zf_rfs V (-1)).1) := hta64ξ
      have hta64ξ := (Eq.symm hta64ξ)
      subst hta64ξ
      refine zp_iret (pc := 40) (n := ((zf_rfs V (-1)).1)) hx hb hEξ hQξ hU5ξ rfl (by decide) (zd_X11_road (40, .ireturn, 1, 0, []) (List.mem_of_getElem? (i := 21) rfl)) (j := 0) rfl (zp_o0 (by omega) (by omega) (by omega) (by omega)) ?_
      rw [hpsξ]
      refine ⟨rfl, ?_⟩
      have hffξ : zf_roac V p1ξ p2ξ p3ξ = (((zf_rfs V (-1)).1), (zf_rfs V (-1)).2) := by
        unfold zf_roac
        rw [if_pos ((Iff.mp htn55ξ) (by omega)), if_neg (fun h9ξ => absurd ((Iff.mpr htn60ξ) h9ξ) (by omega))]
      show zMVc A Y F (zf_roac V p1ξ p2ξ p3ξ).2 u.1 Ga64 ∧ ((zf_rfs V (-1)).1) = (zf_roac V p1ξ p2ξ p3ξ).1
      rw [hffξ]
      exact ⟨⟨Ma64, hMa64ξ, hVa64ξ, trivial⟩, rfl⟩
    · have hbt63ξ := (Iff.mp htn60ξ) (by omega)
      refine zp_load (pc := 20) hx hb (zd_X11_road (20, .iload_n 1, 1, 0, []) (List.mem_of_getElem? (i := 10) rfl)) rfl (j := 1) rfl ?_
      refine zp_load (pc := 21) hx hb (zd_X11_road (21, .iload_n 2, 1, 0, []) (List.mem_of_getElem? (i := 11) rfl)) rfl (j := 2) rfl ?_
      refine zp_icmp (pc := 22) (tgt := 35) hx hb (zd_X11_road (22, .if_icmp .eq 13, 3, 0, []) (List.mem_of_getElem? (i := 12) rfl)) rfl (fun (hc65ξ : p1ξ = p2ξ) => ?_) (fun (hc65ξ : ¬ (p1ξ = p2ξ)) => ?_)
      · refine zp_load (pc := 35) hx hb (zd_X11_road (35, .aload_n 0, 1, 0, []) (List.mem_of_getElem? (i := 18) rfl)) rfl (j := 0) rfl ?_
        refine zp_const (pc := 36) hx hb (zd_X11_road (36, .iconst (-1), 1, 0, []) (List.mem_of_getElem? (i := 19) rfl)) rfl rfl ?_
        refine zp_call (pc := 37) (how := 0) (idx := 111) (mi := 16) (S := []) hx hb hEξ hwξ heffξ hrmξ (zX_rfs hWξ A Y F V) rfl (j := 11) rfl rfl (by decide +kernel) (zd_X11_road (37, .invokevirtual 111, 3, 0, []) (List.mem_of_getElem? (i := 20) rfl)) [(A 0 : Int), (-1)] rfl ⟨zp_o2 (zM_P hMξ (hYbξ _ (List.mem_of_getElem? (i := 0) rfl))), zp_o0 (by omega) (by omega) (by omega) (by omega), trivial⟩ (Nat.le_of_ble_eq_true rfl) ⟨⟨M, hMξ, hVξ, trivial⟩, rfl, hYF0ξ⟩ (fun al halξ rna66ξ Pa66 Ga66 hexta66ξ hfra66ξ hoka66ξ hcsa66ξ hpsia66ξ => ?_)
        obtain rfl := List.mem_singleton.mp halξ
        have hra66ξ := zp_int (hoka66ξ _ rfl).1
        obtain ⟨hPea66ξ, ⟨Ma66, hMa66ξ, hVa66ξ, hSba66ξ⟩, hta66ξ⟩ := hpsia66ξ
        subst hPea66ξ
        clear hexta66ξ hfra66ξ hcsa66ξ hoka66ξ
        have hVa66ξ : ∀ o k, zNc o → Ma66 o k = (zf_rfs V (-1)).2 o k := hVa66ξ
        have hta66ξ : rna66ξ = ((zf_rfs V (-1)).1) := hta66ξ
        have hta66ξ := (Eq.symm hta66ξ)
        subst hta66ξ
        refine zp_iret (pc := 40) (n := ((zf_rfs V (-1)).1)) hx hb hEξ hQξ hU5ξ rfl (by decide) (zd_X11_road (40, .ireturn, 1, 0, []) (List.mem_of_getElem? (i := 21) rfl)) (j := 0) rfl (zp_o0 (by omega) (by omega) (by omega) (by omega)) ?_
        rw [hpsξ]
        refine ⟨rfl, ?_⟩
        have hffξ : zf_roac V p1ξ p2ξ p3ξ = (((zf_rfs V (-1)).1), (zf_rfs V (-1)).2) := by
          unfold zf_roac
          rw [if_pos ((Iff.mp htn55ξ) (by omega)), if_pos ((Iff.mp htn60ξ) (by omega)), if_pos hc65ξ]
        show zMVc A Y F (zf_roac V p1ξ p2ξ p3ξ).2 u.1 Ga66 ∧ ((zf_rfs V (-1)).1) = (zf_roac V p1ξ p2ξ p3ξ).1
        rw [hffξ]
        exact ⟨⟨Ma66, hMa66ξ, hVa66ξ, trivial⟩, rfl⟩
      · refine zp_load (pc := 25) hx hb (zd_X11_road (25, .iload_n 3, 1, 0, []) (List.mem_of_getElem? (i := 13) rfl)) rfl (j := 3) rfl ?_
        refine zp_const (pc := 26) hx hb (zd_X11_road (26, .iconst 0, 1, 0, []) (List.mem_of_getElem? (i := 14) rfl)) rfl rfl ?_
        refine zp_const (pc := 27) hx hb (zd_X11_road (27, .bipush 99, 2, 0, []) (List.mem_of_getElem? (i := 15) rfl)) rfl rfl ?_
        refine zp_call (pc := 29) (how := 1) (idx := 107) (mi := 15) (S := []) hx hb hEξ hwξ heffξ hrmξ (zX_iwn hWξ) rfl (j := 10) rfl rfl (by decide +kernel) (zd_X11_road (29, .invokestatic 107, 3, 0, []) (List.mem_of_getElem? (i := 16) rfl)) [p3ξ, 0, 99] rfl ⟨zp_o0 (by omega) (by omega) (by omega) (by omega), zp_o0 (by omega) (by omega) (by omega) (by omega), zp_o0 (by omega) (by omega) (by omega) (by omega), trivial⟩ (Nat.le_of_ble_eq_true rfl) trivial (fun al halξ rnn67ξ Pn67 Gn67 hextn67ξ hfrn67ξ hokn67ξ hcsn67ξ hpsin67ξ => ?_)
        obtain rfl := List.mem_singleton.mp halξ
        have hrn67ξ := zp_int (hokn67ξ _ rfl).1
        obtain ⟨hPen67ξ, hGen67ξ, htn67ξ⟩ := hpsin67ξ
        rw [hPen67ξ, hGen67ξ]
        clear hextn67ξ hfrn67ξ hcsn67ξ hPen67ξ hGen67ξ
        have htn67ξ : rnn67ξ = 1 ↔ 0 ≤ p3ξ ∧ p3ξ ≤ 99 := htn67ξ
        refine zp_if (pc := 32) (tgt := 41) hx hb (zd_X11_road (32, .ifCond .ne 9, 3, 0, []) (List.mem_of_getElem? (i := 17) rfl)) rfl (fun (hc68ξ : ¬ rnn67ξ = 0) => ?_) (fun (hc68ξ : ¬ (¬ rnn67ξ = 0)) => ?_)
        · have hbt69ξ := (Iff.mp htn67ξ) (by omega)
          refine zp_load (pc := 41) hx hb (zd_X11_road (41, .aload_n 0, 1, 0, []) (List.mem_of_getElem? (i := 22) rfl)) rfl (j := 0) rfl ?_
          refine zp_getf (n := (A 1 : Int)) (pc := 42) hx hb hEξ hwξ (zd_X11_road (42, .getfield 10, 3, 0, []) (List.mem_of_getElem? (i := 23) rfl)) (j := 50) rfl rfl rfl (zM_P hMξ (hYbξ _ (List.mem_of_getElem? (i := 0) rfl))) ((zM_G hMξ (hYbξ _ (List.mem_of_getElem? (i := 0) rfl)) 0).trans (zM_F hMξ (hFbξ _ (List.mem_of_getElem? (i := 0) rfl)))) ?_
          refine zp_getf (n := (A 30 : Int)) (pc := 45) hx hb hEξ hwξ (zd_X11_road (45, .getfield 115, 3, 0, []) (List.mem_of_getElem? (i := 24) rfl)) (j := 9) rfl rfl rfl (zM_P hMξ (hYbξ _ (List.mem_of_getElem? (i := 1) rfl))) ((zM_G hMξ (hYbξ _ (List.mem_of_getElem? (i := 1) rfl)) 0).trans (zM_F hMξ (hFbξ _ (List.mem_of_getElem? (i := 13) rfl)))) ?_
          refine zp_load (pc := 48) hx hb (zd_X11_road (48, .iload_n 1, 1, 0, []) (List.mem_of_getElem? (i := 25) rfl)) rfl (j := 1) rfl ?_
          refine zp_const (pc := 49) hx hb (zd_X11_road (49, .bipush 8, 2, 0, []) (List.mem_of_getElem? (i := 26) rfl)) rfl rfl ?_
          refine zp_mul (n := (p1ξ * 8)) (pc := 51) hx hb (zd_X11_road (51, .imul, 1, 0, []) (List.mem_of_getElem? (i := 27) rfl)) (by omega) (zp_r0 (by omega) (by omega)) ?_
          refine zp_load (pc := 52) hx hb (zd_X11_road (52, .iload_n 2, 1, 0, []) (List.mem_of_getElem? (i := 28) rfl)) rfl (j := 2) rfl ?_
          refine zp_add (n := ((p1ξ * 8) + p2ξ)) (pc := 53) hx hb (zd_X11_road (53, .iadd, 1, 0, []) (List.mem_of_getElem? (i := 29) rfl)) (by omega) (zp_r0 (by omega) (by omega)) ?_
          refine zp_iald (j := (8 * p1ξ.toNat + p2ξ.toNat)) (v := (V 30 (2000 + (8 * p1ξ.toNat + p2ξ.toNat)))) (pc := 54) hx hb hwξ (zd_X11_road (54, .iaload, 1, 0, []) (List.mem_of_getElem? (i := 30) rfl)) (show zp_ia 1 42 = some (64, 0, 0, (-2147483648), 2147483647) from rfl) (zM_P hMξ (hYbξ _ (List.mem_of_getElem? (i := 17) rfl))) (by omega) (by omega) ((zM_G hMξ (hYbξ _ (List.mem_of_getElem? (i := 17) rfl)) (2000 + (8 * p1ξ.toNat + p2ξ.toNat))).trans (hVξ 30 (2000 + (8 * p1ξ.toNat + p2ξ.toNat)) (by decide))) (fun hk71ξ => ?_)
          have hk71bξ := zp_int hk71ξ
          clear hk71ξ
          refine zp_store (L' := [(4, 0, (V 30 (2000 + (8 * p1ξ.toNat + p2ξ.toNat)))), (0, 2, (A 0 : Int)), (1, 0, p1ξ), (2, 0, p2ξ), (3, 0, p3ξ)]) (pc := 55) hx hb hnLξ (zd_X11_road (55, .istore 4, 2, 0, []) (List.mem_of_getElem? (i := 31) rfl)) rfl rfl rfl ?_
          refine zp_load (pc := 57) hx hb (zd_X11_road (57, .aload_n 0, 1, 0, []) (List.mem_of_getElem? (i := 32) rfl)) rfl (j := 1) rfl ?_
          refine zp_getf (n := (A 1 : Int)) (pc := 58) hx hb hEξ hwξ (zd_X11_road (58, .getfield 10, 3, 0, []) (List.mem_of_getElem? (i := 33) rfl)) (j := 50) rfl rfl rfl (zM_P hMξ (hYbξ _ (List.mem_of_getElem? (i := 0) rfl))) ((zM_G hMξ (hYbξ _ (List.mem_of_getElem? (i := 0) rfl)) 0).trans (zM_F hMξ (hFbξ _ (List.mem_of_getElem? (i := 0) rfl)))) ?_
          refine zp_getf (n := (A 30 : Int)) (pc := 61) hx hb hEξ hwξ (zd_X11_road (61, .getfield 115, 3, 0, []) (List.mem_of_getElem? (i := 34) rfl)) (j := 9) rfl rfl rfl (zM_P hMξ (hYbξ _ (List.mem_of_getElem? (i := 1) rfl))) ((zM_G hMξ (hYbξ _ (List.mem_of_getElem? (i := 1) rfl)) 0).trans (zM_F hMξ (hFbξ _ (List.mem_of_getElem? (i := 13) rfl)))) ?_
          refine zp_load (pc := 64) hx hb (zd_X11_road (64, .iload_n 1, 1, 0, []) (List.mem_of_getElem? (i := 35) rfl)) rfl (j := 2) rfl ?_
          refine zp_const (pc := 65) hx hb (zd_X11_road (65, .bipush 8, 2, 0, []) (List.mem_of_getElem? (i := 36) rfl)) rfl rfl ?_
          refine zp_mul (n := (p1ξ * 8)) (pc := 67) hx hb (zd_X11_road (67, .imul, 1, 0, []) (List.mem_of_getElem? (i := 37) rfl)) (by omega) (zp_r0 (by omega) (by omega)) ?_
          refine zp_load (pc := 68) hx hb (zd_X11_road (68, .iload_n 2, 1, 0, []) (List.mem_of_getElem? (i := 38) rfl)) rfl (j := 3) rfl ?_
          refine zp_add (n := ((p1ξ * 8) + p2ξ)) (pc := 69) hx hb (zd_X11_road (69, .iadd, 1, 0, []) (List.mem_of_getElem? (i := 39) rfl)) (by omega) (zp_r0 (by omega) (by omega)) ?_
          refine zp_load (pc := 70) hx hb (zd_X11_road (70, .iload_n 3, 1, 0, []) (List.mem_of_getElem? (i := 40) rfl)) rfl (j := 4) rfl ?_
          refine zp_iast (j := (8 * p1ξ.toNat + p2ξ.toNat)) (pc := 71) hx hb hwξ heffξ (zd_X11_road (71, .iastore, 1, 0, []) (List.mem_of_getElem? (i := 41) rfl)) (show zp_ia 1 42 = some (64, 0, 0, (-2147483648), 2147483647) from rfl) (zM_P hMξ (hYbξ _ (List.mem_of_getElem? (i := 17) rfl))) (by omega) (by omega) (zp_o0 (by omega) (by omega) (by omega) (by omega)) rfl ?_
          refine zp_load (pc := 72) hx hb (zd_X11_road (72, .aload_n 0, 1, 0, []) (List.mem_of_getElem? (i := 42) rfl)) rfl (j := 1) rfl ?_
          refine zp_getf (n := (A 1 : Int)) (pc := 73) hx hb hEξ hwξ (zd_X11_road (73, .getfield 10, 3, 0, []) (List.mem_of_getElem? (i := 43) rfl)) (j := 50) rfl rfl rfl (zM_P hMξ (hYbξ _ (List.mem_of_getElem? (i := 0) rfl))) ((zp_set_ne (Or.inl (zM_ne hMξ (hYbξ _ (List.mem_of_getElem? (i := 0) rfl)) (hYbξ _ (List.mem_of_getElem? (i := 17) rfl)) (by decide)))).trans (((zM_G hMξ (hYbξ _ (List.mem_of_getElem? (i := 0) rfl)) 0).trans (zM_F hMξ (hFbξ _ (List.mem_of_getElem? (i := 0) rfl)))))) ?_
          refine zp_getf (n := (A 30 : Int)) (pc := 76) hx hb hEξ hwξ (zd_X11_road (76, .getfield 115, 3, 0, []) (List.mem_of_getElem? (i := 44) rfl)) (j := 9) rfl rfl rfl (zM_P hMξ (hYbξ _ (List.mem_of_getElem? (i := 1) rfl))) ((zp_set_ne (Or.inl (zM_ne hMξ (hYbξ _ (List.mem_of_getElem? (i := 1) rfl)) (hYbξ _ (List.mem_of_getElem? (i := 17) rfl)) (by decide)))).trans (((zM_G hMξ (hYbξ _ (List.mem_of_getElem? (i := 1) rfl)) 0).trans (zM_F hMξ (hFbξ _ (List.mem_of_getElem? (i := 13) rfl)))))) ?_
          refine zp_load (pc := 79) hx hb (zd_X11_road (79, .iload_n 2, 1, 0, []) (List.mem_of_getElem? (i := 45) rfl)) rfl (j := 3) rfl ?_
          refine zp_const (pc := 80) hx hb (zd_X11_road (80, .bipush 8, 2, 0, []) (List.mem_of_getElem? (i := 46) rfl)) rfl rfl ?_
          refine zp_mul (n := (p2ξ * 8)) (pc := 82) hx hb (zd_X11_road (82, .imul, 1, 0, []) (List.mem_of_getElem? (i := 47) rfl)) (by omega) (zp_r0 (by omega) (by omega)) ?_
          refine zp_load (pc := 83) hx hb (zd_X11_road (83, .iload_n 1, 1, 0, []) (List.mem_of_getElem? (i := 48) rfl)) rfl (j := 2) rfl ?_
          refine zp_add (n := ((p2ξ * 8) + p1ξ)) (pc := 84) hx hb (zd_X11_road (84, .iadd, 1, 0, []) (List.mem_of_getElem? (i := 49) rfl)) (by omega) (zp_r0 (by omega) (by omega)) ?_
          refine zp_load (pc := 85) hx hb (zd_X11_road (85, .iload_n 3, 1, 0, []) (List.mem_of_getElem? (i := 50) rfl)) rfl (j := 4) rfl ?_
          refine zp_iast (j := (8 * p2ξ.toNat + p1ξ.toNat)) (pc := 86) hx hb hwξ heffξ (zd_X11_road (86, .iastore, 1, 0, []) (List.mem_of_getElem? (i := 51) rfl)) (show zp_ia 1 42 = some (64, 0, 0, (-2147483648), 2147483647) from rfl) (zM_P hMξ (hYbξ _ (List.mem_of_getElem? (i := 17) rfl))) (by omega) (by omega) (zp_o0 (by omega) (by omega) (by omega) (by omega)) rfl ?_
          refine zp_load (pc := 87) hx hb (zd_X11_road (87, .aload_n 0, 1, 0, []) (List.mem_of_getElem? (i := 52) rfl)) rfl (j := 1) rfl ?_
          refine zp_load (pc := 88) hx hb (zd_X11_road (88, .iload 4, 2, 0, []) (List.mem_of_getElem? (i := 53) rfl)) rfl (j := 0) rfl ?_
          refine zp_call (pc := 90) (how := 0) (idx := 118) (mi := 17) (S := []) hx hb hEξ hwξ heffξ hrmξ (zX_ans hWξ A Y F (zp_set (zp_set V 30 (2000 + (8 * p1ξ.toNat + p2ξ.toNat)) p3ξ) 30 (2000 + (8 * p2ξ.toNat + p1ξ.toNat)) p3ξ)) rfl (j := 12) rfl rfl (by decide +kernel) (zd_X11_road (90, .invokevirtual 118, 3, 0, []) (List.mem_of_getElem? (i := 54) rfl)) [(A 0 : Int), (V 30 (2000 + (8 * p1ξ.toNat + p2ξ.toNat)))] rfl ⟨zp_o2 (zM_P hMξ (hYbξ _ (List.mem_of_getElem? (i := 0) rfl))), zp_o0 (by omega) (by omega) (by omega) (by omega), trivial⟩ (Nat.le_of_ble_eq_true rfl) ⟨⟨(zp_set (zp_set M 30 (2000 + (8 * p1ξ.toNat + p2ξ.toNat)) p3ξ) 30 (2000 + (8 * p2ξ.toNat + p1ξ.toNat)) p3ξ), (zM_setE (zM_setE hMξ (hYbξ _ (List.mem_of_getElem? (i := 17) rfl))) (hYbξ _ (List.mem_of_getElem? (i := 17) rfl))), (zV_set (zV_set hVξ)), trivial⟩, rfl, hYF0ξ⟩ (fun al halξ rna72ξ Pa72 Ga72 hexta72ξ hfra72ξ hoka72ξ hcsa72ξ hpsia72ξ => ?_)
          obtain rfl := List.mem_singleton.mp halξ
          have hra72ξ := zp_int (hoka72ξ _ rfl).1
          obtain ⟨hPea72ξ, ⟨Ma72, hMa72ξ, hVa72ξ, hSba72ξ⟩, hta72ξ⟩ := hpsia72ξ
          subst hPea72ξ
          clear hexta72ξ hfra72ξ hcsa72ξ hoka72ξ
          have hVa72ξ : ∀ o k, zNc o → Ma72 o k = (zf_ans (zp_set (zp_set V 30 (2000 + (8 * p1ξ.toNat + p2ξ.toNat)) p3ξ) 30 (2000 + (8 * p2ξ.toNat + p1ξ.toNat)) p3ξ) (V 30 (2000 + (8 * p1ξ.toNat + p2ξ.toNat)))).2 o k := hVa72ξ
          have hta72ξ : rna72ξ = ((zf_ans (zp_set (zp_set V 30 (2000 + (8 * p1ξ.toNat + p2ξ.toNat)) p3ξ) 30 (2000 + (8 * p2ξ.toNat + p1ξ.toNat)) p3ξ) (V 30 (2000 + (8 * p1ξ.toNat + p2ξ.toNat)))).1) := hta72ξ
          have hta72ξ := (Eq.symm hta72ξ)
          subst hta72ξ
          refine zp_iret (pc := 93) (n := ((zf_ans (zp_set (zp_set V 30 (2000 + (8 * p1ξ.toNat + p2ξ.toNat)) p3ξ) 30 (2000 + (8 * p2ξ.toNat + p1ξ.toNat)) p3ξ) (V 30 (2000 + (8 * p1ξ.toNat + p2ξ.toNat)))).1)) hx hb hEξ hQξ hU5ξ rfl (by decide) (zd_X11_road (93, .ireturn, 1, 0, []) (List.mem_of_getElem? (i := 55) rfl)) (j := 0) rfl (zp_o0 (by omega) (by omega) (by omega) (by omega)) ?_
          rw [hpsξ]
          refine ⟨rfl, ?_⟩
          have hffξ : zf_roac V p1ξ p2ξ p3ξ = (((zf_ans (zp_set (zp_set V 30 (2000 + (8 * p1ξ.toNat + p2ξ.toNat)) p3ξ) 30 (2000 + (8 * p2ξ.toNat + p1ξ.toNat)) p3ξ) (V 30 (2000 + (8 * p1ξ.toNat + p2ξ.toNat)))).1), (zf_ans (zp_set (zp_set V 30 (2000 + (8 * p1ξ.toNat + p2ξ.toNat)) p3ξ) 30 (2000 + (8 * p2ξ.toNat + p1ξ.toNat)) p3ξ) (V 30 (2000 + (8 * p1ξ.toNat + p2ξ.toNat)))).2) := by
            unfold zf_roac
            rw [if_pos ((Iff.mp htn55ξ) (by omega)), if_pos ((Iff.mp htn60ξ) (by omega)), if_neg hc65ξ, if_pos ((Iff.mp htn67ξ) (by omega))]
          show zMVc A Y F (zf_roac V p1ξ p2ξ p3ξ).2 u.1 Ga72 ∧ ((zf_ans (zp_set (zp_set V 30 (2000 + (8 * p1ξ.toNat + p2ξ.toNat)) p3ξ) 30 (2000 + (8 * p2ξ.toNat + p1ξ.toNat)) p3ξ) (V 30 (2000 + (8 * p1ξ.toNat + p2ξ.toNat)))).1) = (zf_roac V p1ξ p2ξ p3ξ).1
          rw [hffξ]
          exact ⟨⟨Ma72, hMa72ξ, hVa72ξ, trivial⟩, rfl⟩
        · have hbf70ξ : ¬ (0 ≤ p3ξ ∧ p3ξ ≤ 99) := fun h9ξ => absurd ((Iff.mpr htn67ξ) h9ξ) (by omega)
          refine zp_load (pc := 35) hx hb (zd_X11_road (35, .aload_n 0, 1, 0, []) (List.mem_of_getElem? (i := 18) rfl)) rfl (j := 0) rfl ?_
          refine zp_const (pc := 36) hx hb (zd_X11_road (36, .iconst (-1), 1, 0, []) (List.mem_of_getElem? (i := 19) rfl)) rfl rfl ?_
          refine zp_call (pc := 37) (how := 0) (idx := 111) (mi := 16) (S := []) hx hb hEξ hwξ heffξ hrmξ (zX_rfs hWξ A Y F V) rfl (j := 11) rfl rfl (by decide +kernel) (zd_X11_road (37, .invokevirtual 111, 3, 0, []) (List.mem_of_getElem? (i := 20) rfl)) [(A 0 : Int), (-1)] rfl ⟨zp_o2 (zM_P hMξ (hYbξ _ (List.mem_of_getElem? (i := 0) rfl))), zp_o0 (by omega) (by omega) (by omega) (by omega), trivial⟩ (Nat.le_of_ble_eq_true rfl) ⟨⟨M, hMξ, hVξ, trivial⟩, rfl, hYF0ξ⟩ (fun al halξ rna73ξ Pa73 Ga73 hexta73ξ hfra73ξ hoka73ξ hcsa73ξ hpsia73ξ => ?_)
          obtain rfl := List.mem_singleton.mp halξ
          have hra73ξ := zp_int (hoka73ξ _ rfl).1
          obtain ⟨hPea73ξ, ⟨Ma73, hMa73ξ, hVa73ξ, hSba73ξ⟩, hta73ξ⟩ := hpsia73ξ
          subst hPea73ξ
          clear hexta73ξ hfra73ξ hcsa73ξ hoka73ξ
          have hVa73ξ : ∀ o k, zNc o → Ma73 o k = (zf_rfs V (-1)).2 o k := hVa73ξ
          have hta73ξ : rna73ξ = ((zf_rfs V (-1)).1) := hta73ξ
          have hta73ξ := (Eq.symm hta73ξ)
          subst hta73ξ
          refine zp_iret (pc := 40) (n := ((zf_rfs V (-1)).1)) hx hb hEξ hQξ hU5ξ rfl (by decide) (zd_X11_road (40, .ireturn, 1, 0, []) (List.mem_of_getElem? (i := 21) rfl)) (j := 0) rfl (zp_o0 (by omega) (by omega) (by omega) (by omega)) ?_
          rw [hpsξ]
          refine ⟨rfl, ?_⟩
          have hffξ : zf_roac V p1ξ p2ξ p3ξ = (((zf_rfs V (-1)).1), (zf_rfs V (-1)).2) := by
            unfold zf_roac
            rw [if_pos ((Iff.mp htn55ξ) (by omega)), if_pos ((Iff.mp htn60ξ) (by omega)), if_neg hc65ξ, if_neg (fun h9ξ => absurd ((Iff.mpr htn67ξ) h9ξ) (by omega))]
          show zMVc A Y F (zf_roac V p1ξ p2ξ p3ξ).2 u.1 Ga73 ∧ ((zf_rfs V (-1)).1) = (zf_roac V p1ξ p2ξ p3ξ).1
          rw [hffξ]
          exact ⟨⟨Ma73, hMa73ξ, hVa73ξ, trivial⟩, rfl⟩
noncomputable def zf_perc (V : Nat → Nat → Int) (p1ξ : Int) (p2ξ : Int) : Int × (Nat → Nat → Int) := if 0 ≤ p1ξ ∧ p1ξ ≤ 9 then if 0 ≤ p2ξ ∧ p2ξ ≤ 7 then if (V 1 1) < 6 then (((zf_ans (zf_adp1 (zf_clr3 V).2 p1ξ p2ξ).2 ((zf_adp1 (zf_clr3 V).2 p1ξ p2ξ).1)).1), (zf_ans (zf_adp1 (zf_clr3 V).2 p1ξ p2ξ).2 ((zf_adp1 (zf_clr3 V).2 p1ξ p2ξ).1)).2) else (((zf_rfs V (-5)).1), (zf_rfs V (-5)).2) else (((zf_rfs V (-1)).1), (zf_rfs V (-1)).2) else (((zf_rfs V (-1)).1), (zf_rfs V (-1)).2)
noncomputable def zK_perc : zk_K := (zt_mn 18, prog_1_method_3_code, 3, (Option.some Jvm.ClassFile.FieldType.int), 1, 11, [(2, 12, 0, 0), (0, 0, (-2147483648), 2147483647), (0, 0, (-2147483648), 2147483647)], [(some (0, 0, (-2147483648), 2147483647), [])], zUC, (2, 180, 0, 0))
noncomputable def zφ_perc (A : Nat → Nat) (Y : List (Nat × Nat)) (F : List (Nat × Nat × Nat)) (V : Nat → Nat → Int) : (Nat → Option Nat) → (Nat → Nat → Int) → List Int → Prop := fun P G ps => zMVc A Y F V P G ∧ ps.getD 0 0 = (A 0 : Int) ∧ zMc Y F
noncomputable def zψ_perc (A : Nat → Nat) (Y : List (Nat × Nat)) (F : List (Nat × Nat × Nat)) (V : Nat → Nat → Int) : (Nat → Option Nat) → (Nat → Nat → Int) → List Int → (Nat → Option Nat) → (Nat → Nat → Int) → Int → Prop := fun P G ps P' G' rn => P' = P ∧ zMVc A Y F (zf_perc V (ps.getD 1 0) (ps.getD 2 0)).2 P' G' ∧ rn = (zf_perc V (ps.getD 1 0) (ps.getD 2 0)).1
theorem zX_perc {l : Launch} {w : zk_W} (hWξ : zh_W w) (A : Nat → Nat) (Y : List (Nat × Nat)) (F : List (Nat × Nat × Nat)) (V : Nat → Nat → Int) : zk_metX l w zt_dv zt_TB zK_perc (zp_A (zφ_perc A Y F V)) (zp_B (zψ_perc A Y F V)) ∧ zk_cok w zt_TB zK_perc := by
  refine zp_methX (cn := "WoundTown") zp_lkallW hWξ (pl := 619) rfl (by decide +kernel) (fun p e R s m args below meth c Q u hx hb hEξ hQξ hU5ξ heffξ hnLξ hokξ hφ => ?_)
  have hwξ := hWξ.1
  obtain ⟨p0ξ, p1ξ, p2ξ, hpsξ, tk0, tk1, tk2⟩ := zp_ps3 hokξ
  have hrmξ : zk_Kr (zk_ev (zt_types, zp_lkW, zt_dv, [], [], zp_lcW, zK_perc)) = zk_Kr zK_perc := rfl
  rw [hpsξ] at hφ ⊢
  have hφ : zMVc A Y F V u.1 (zp_n u.2.1) ∧ p0ξ = (A 0 : Int) ∧ zMc Y F := hφ
  obtain ⟨⟨M, hMξ, hVξ, hSbξ⟩, rfl, hYFξ⟩ := hφ
  have hYF0ξ := hYFξ
  obtain ⟨hYbξ, hFbξ, hFxξ, -⟩ := hYFξ
  have hi1ξ := zp_int tk1
  have hi2ξ := zp_int tk2
  show zp_J p l e R s m args below meth c Q w u [] 0 [(0, 2, (A 0 : Int)), (1, 0, p1ξ), (2, 0, p2ξ)] [] u.1 (zp_n u.2.1)
  refine zp_load (pc := 0) hx hb (zd_X11_person (0, .iload_n 1, 1, 0, []) (List.mem_of_getElem? (i := 0) rfl)) rfl (j := 1) rfl ?_
  refine zp_const (pc := 1) hx hb (zd_X11_person (1, .iconst 0, 1, 0, []) (List.mem_of_getElem? (i := 1) rfl)) rfl rfl ?_
  refine zp_const (pc := 2) hx hb (zd_X11_person (2, .bipush 9, 2, 0, []) (List.mem_of_getElem? (i := 2) rfl)) rfl rfl ?_
  refine zp_call (pc := 4) (how := 1) (idx := 107) (mi := 15) (S := []) hx hb hEξ hwξ heffξ hrmξ (zX_iwn hWξ) rfl (j := 10) rfl rfl (by decide +kernel) (zd_X11_person (4, .invokestatic 107, 3, 0, []) (List.mem_of_getElem? (i := 3) rfl)) [p1ξ, 0, 9] rfl ⟨zp_o0 (by omega) (by omega) (by omega) (by omega), zp_o0 (by omega) (by omega) (by omega) (by omega), zp_o0 (by omega) (by omega) (by omega) (by omega), trivial⟩ (Nat.le_of_ble_eq_true rfl) trivial (fun al halξ rnn74ξ Pn74 Gn74 hextn74ξ hfrn74ξ hokn74ξ hcsn74ξ hpsin74ξ => ?_)
  obtain rfl := List.mem_singleton.mp halξ
  have hrn74ξ := zp_int (hokn74ξ _ rfl).1
  obtain ⟨hPen74ξ, hGen74ξ, htn74ξ⟩ := hpsin74ξ
  rw [hPen74ξ, hGen74ξ]
  clear hextn74ξ hfrn74ξ hcsn74ξ hPen74ξ hGen74ξ
  have htn74ξ : rnn74ξ = 1 ↔ 0 ≤ p1ξ ∧ p1ξ ≤ 9 := htn74ξ
  refine zp_if (pc := 7) (tgt := 20) hx hb (zd_X11_person (7, .ifCond .eq 13, 3, 0, []) (List.mem_of_getElem? (i := 4) rfl)) rfl (fun (hc75ξ : rnn74ξ = 0) => ?_) (fun (hc75ξ : ¬ (rnn74ξ = 0)) => ?_)
  · have hbf76ξ : ¬ (0 ≤ p1ξ ∧ p1ξ ≤ 9) := fun h9ξ => absurd ((Iff.mpr htn74ξ) h9ξ) (by omega)
    refine zp_load (pc := 20) hx hb (zd_X11_person (20, .aload_n 0, 1, 0, []) (List.mem_of_getElem? (i := 10) rfl)) rfl (j := 0) rfl ?_
    refine zp_const (pc := 21) hx hb (zd_X11_person (21, .iconst (-1), 1, 0, []) (List.mem_of_getElem? (i := 11) rfl)) rfl rfl ?_
    refine zp_call (pc := 22) (how := 0) (idx := 111) (mi := 16) (S := []) hx hb hEξ hwξ heffξ hrmξ (zX_rfs hWξ A Y F V) rfl (j := 11) rfl rfl (by decide +kernel) (zd_X11_person (22, .invokevirtual 111, 3, 0, []) (List.mem_of_getElem? (i := 12) rfl)) [(A 0 : Int), (-1)] rfl ⟨zp_o2 (zM_P hMξ (hYbξ _ (List.mem_of_getElem? (i := 0) rfl))), zp_o0 (by omega) (by omega) (by omega) (by omega), trivial⟩ (Nat.le_of_ble_eq_true rfl) ⟨⟨M, hMξ, hVξ, trivial⟩, rfl, hYF0ξ⟩ (fun al halξ rna78ξ Pa78 Ga78 hexta78ξ hfra78ξ hoka78ξ hcsa78ξ hpsia78ξ => ?_)
    obtain rfl := List.mem_singleton.mp halξ
    have hra78ξ := zp_int (hoka78ξ _ rfl).1
    obtain ⟨hPea78ξ, ⟨Ma78, hMa78ξ, hVa78ξ, hSba78ξ⟩, hta78ξ⟩ := hpsia78ξ
    subst hPea78ξ
    clear hexta78ξ hfra78ξ hcsa78ξ hoka78ξ
    have hVa78ξ : ∀ o k, zNc o → Ma78 o k = (zf_rfs V (-1)).2 o k := hVa78ξ
    have hta78ξ : rna78ξ = ((zf_rfs V (-1)).1) := hta78ξ
    have hta78ξ := (Eq.symm hta78ξ)
    subst hta78ξ
    refine zp_iret (pc := 25) (n := ((zf_rfs V (-1)).1)) hx hb hEξ hQξ hU5ξ rfl (by decide) (zd_X11_person (25, .ireturn, 1, 0, []) (List.mem_of_getElem? (i := 13) rfl)) (j := 0) rfl (zp_o0 (by omega) (by omega) (by omega) (by omega)) ?_
    rw [hpsξ]
    refine ⟨rfl, ?_⟩
    have hffξ : zf_perc V p1ξ p2ξ = (((zf_rfs V (-1)).1), (zf_rfs V (-1)).2) := by
      unfold zf_perc
      rw [if_neg (fun h9ξ => absurd ((Iff.mpr htn74ξ) h9ξ) (by omega))]
    show zMVc A Y F (zf_perc V p1ξ p2ξ).2 u.1 Ga78 ∧ ((zf_rfs V (-1)).1) = (zf_perc V p1ξ p2ξ).1
    rw [hffξ]
    exact ⟨⟨Ma78, hMa78ξ, hVa78ξ, trivial⟩, rfl⟩
  · have hbt77ξ := (Iff.mp htn74ξ) (by omega)
    refine zp_load (pc := 10) hx hb (zd_X11_person (10, .iload_n 2, 1, 0, []) (List.mem_of_getElem? (i := 5) rfl)) rfl (j := 2) rfl ?_
    refine zp_const (pc := 11) hx hb (zd_X11_person (11, .iconst 0, 1, 0, []) (List.mem_of_getElem? (i := 6) rfl)) rfl rfl ?_
    refine zp_const (pc := 12) hx hb (zd_X11_person (12, .bipush 7, 2, 0, []) (List.mem_of_getElem? (i := 7) rfl)) rfl rfl ?_
    refine zp_call (pc := 14) (how := 1) (idx := 107) (mi := 15) (S := []) hx hb hEξ hwξ heffξ hrmξ (zX_iwn hWξ) rfl (j := 10) rfl rfl (by decide +kernel) (zd_X11_person (14, .invokestatic 107, 3, 0, []) (List.mem_of_getElem? (i := 8) rfl)) [p2ξ, 0, 7] rfl ⟨zp_o0 (by omega) (by omega) (by omega) (by omega), zp_o0 (by omega) (by omega) (by omega) (by omega), zp_o0 (by omega) (by omega) (by omega) (by omega), trivial⟩ (Nat.le_of_ble_eq_true rfl) trivial (fun al halξ rnn79ξ Pn79 Gn79 hextn79ξ hfrn79ξ hokn79ξ hcsn79ξ hpsin79ξ => ?_)
    obtain rfl := List.mem_singleton.mp halξ
    have hrn79ξ := zp_int (hokn79ξ _ rfl).1
    obtain ⟨hPen79ξ, hGen79ξ, htn79ξ⟩ := hpsin79ξ
    rw [hPen79ξ, hGen79ξ]
    clear hextn79ξ hfrn79ξ hcsn79ξ hPen79ξ hGen79ξ
    have htn79ξ : rnn79ξ = 1 ↔ 0 ≤ p2ξ ∧ p2ξ ≤ 7 := htn79ξ
    refine zp_if (pc := 17) (tgt := 26) hx hb (zd_X11_person (17, .ifCond .ne 9, 3, 0, []) (List.mem_of_getElem? (i := 9) rfl)) rfl (fun (hc80ξ : ¬ rnn79ξ = 0) => ?_) (fun (hc80ξ : ¬ (¬ rnn79ξ = 0)) => ?_)
    · have hbt81ξ := (Iff.mp htn79ξ) (by omega)
      refine zp_load (pc := 26) hx hb (zd_X11_person (26, .aload_n 0, 1, 0, []) (List.mem_of_getElem? (i := 14) rfl)) rfl (j := 0) rfl ?_
      refine zp_getf (n := (A 1 : Int)) (pc := 27) hx hb hEξ hwξ (zd_X11_person (27, .getfield 10, 3, 0, []) (List.mem_of_getElem? (i := 15) rfl)) (j := 50) rfl rfl rfl (zM_P hMξ (hYbξ _ (List.mem_of_getElem? (i := 0) rfl))) ((zM_G hMξ (hYbξ _ (List.mem_of_getElem? (i := 0) rfl)) 0).trans (zM_F hMξ (hFbξ _ (List.mem_of_getElem? (i := 0) rfl)))) ?_
      refine zp_getf (n := (V 1 1)) (pc := 30) hx hb hEξ hwξ (zd_X11_person (30, .getfield 121, 3, 0, []) (List.mem_of_getElem? (i := 16) rfl)) (j := 10) rfl rfl rfl (zM_P hMξ (hYbξ _ (List.mem_of_getElem? (i := 1) rfl))) ((zM_G hMξ (hYbξ _ (List.mem_of_getElem? (i := 1) rfl)) 1).trans (hVξ 1 1 (by decide))) ?_
      refine zp_kn (k := 1) (a := (A 1)) hwξ (show zp_fd 10 1 = some (9, 0, 0, 0, 6) from rfl) rfl (zM_P hMξ (hYbξ _ (List.mem_of_getElem? (i := 1) rfl))) (fun hf83ξ => ?_)
      have hf83bξ := zp_int hf83ξ
      rw [((zM_G hMξ (hYbξ _ (List.mem_of_getElem? (i := 1) rfl)) 1).trans (hVξ 1 1 (by decide)))] at hf83bξ
      clear hf83ξ
      refine zp_const (pc := 33) hx hb (zd_X11_person (33, .bipush 6, 2, 0, []) (List.mem_of_getElem? (i := 17) rfl)) rfl rfl ?_
      refine zp_icmp (pc := 35) (tgt := 45) hx hb (zd_X11_person (35, .if_icmp .lt 10, 3, 0, []) (List.mem_of_getElem? (i := 18) rfl)) rfl (fun (hc84ξ : (V 1 1) < 6) => ?_) (fun (hc84ξ : ¬ ((V 1 1) < 6)) => ?_)
      · refine zp_load (pc := 45) hx hb (zd_X11_person (45, .aload_n 0, 1, 0, []) (List.mem_of_getElem? (i := 23) rfl)) rfl (j := 0) rfl ?_
        refine zp_getf (n := (A 3 : Int)) (pc := 46) hx hb hEξ hwξ (zd_X11_person (46, .getfield 23, 3, 0, []) (List.mem_of_getElem? (i := 24) rfl)) (j := 52) rfl rfl rfl (zM_P hMξ (hYbξ _ (List.mem_of_getElem? (i := 0) rfl))) ((zM_G hMξ (hYbξ _ (List.mem_of_getElem? (i := 0) rfl)) 2).trans (zM_F hMξ (hFbξ _ (List.mem_of_getElem? (i := 2) rfl)))) ?_
        refine zp_call (pc := 49) (how := 0) (idx := 124) (mi := 19) (S := []) hx hb hEξ hwξ heffξ hrmξ (zX_clr3 hWξ A Y F V) rfl (j := 13) rfl rfl (by decide +kernel) (zd_X11_person (49, .invokevirtual 124, 3, 0, []) (List.mem_of_getElem? (i := 25) rfl)) [(A 3 : Int)] rfl ⟨zp_o2 (zM_P hMξ (hYbξ _ (List.mem_of_getElem? (i := 3) rfl))), trivial⟩ (Nat.le_of_ble_eq_true rfl) ⟨⟨M, hMξ, hVξ, trivial⟩, rfl, hYF0ξ⟩ (fun al halξ rna85ξ Pa85 Ga85 hexta85ξ hfra85ξ hoka85ξ hcsa85ξ hpsia85ξ => ?_)
        obtain rfl := List.mem_singleton.mp halξ
        obtain ⟨hPea85ξ, Ma85, hMa85ξ, hVa85ξ, hSba85ξ⟩ := hpsia85ξ
        subst hPea85ξ
        clear hexta85ξ hfra85ξ hcsa85ξ hoka85ξ
        have hVa85ξ : ∀ o k, zNc o → Ma85 o k = (zf_clr3 V).2 o k := hVa85ξ
        refine zp_load (pc := 52) hx hb (zd_X11_person (52, .aload_n 0, 1, 0, []) (List.mem_of_getElem? (i := 26) rfl)) rfl (j := 0) rfl ?_
        refine zp_load (pc := 53) hx hb (zd_X11_person (53, .aload_n 0, 1, 0, []) (List.mem_of_getElem? (i := 27) rfl)) rfl (j := 0) rfl ?_
        refine zp_getf (n := (A 1 : Int)) (pc := 54) hx hb hEξ hwξ (zd_X11_person (54, .getfield 10, 3, 0, []) (List.mem_of_getElem? (i := 28) rfl)) (j := 50) rfl rfl rfl (zM_P hMa85ξ (hYbξ _ (List.mem_of_getElem? (i := 0) rfl))) ((zM_G hMa85ξ (hYbξ _ (List.mem_of_getElem? (i := 0) rfl)) 0).trans (zM_F hMa85ξ (hFbξ _ (List.mem_of_getElem? (i := 0) rfl)))) ?_
        refine zp_load (pc := 57) hx hb (zd_X11_person (57, .iload_n 1, 1, 0, []) (List.mem_of_getElem? (i := 29) rfl)) rfl (j := 1) rfl ?_
        refine zp_load (pc := 58) hx hb (zd_X11_person (58, .iload_n 2, 1, 0, []) (List.mem_of_getElem? (i := 30) rfl)) rfl (j := 2) rfl ?_
        refine zp_call (pc := 59) (how := 0) (idx := 127) (mi := 20) (S := [(2, (A 0 : Int))]) hx hb hEξ hwξ heffξ hrmξ (zX_adp1 hWξ A Y F (zf_clr3 V).2) rfl (j := 14) rfl rfl (by decide +kernel) (zd_X11_person (59, .invokevirtual 127, 3, 0, []) (List.mem_of_getElem? (i := 31) rfl)) [(A 1 : Int), p1ξ, p2ξ] rfl ⟨zp_o2 (zM_P hMa85ξ (hYbξ _ (List.mem_of_getElem? (i := 1) rfl))), zp_o0 (by omega) (by omega) (by omega) (by omega), zp_o0 (by omega) (by omega) (by omega) (by omega), trivial⟩ (Nat.le_of_ble_eq_true rfl) ⟨⟨Ma85, hMa85ξ, hVa85ξ, trivial⟩, rfl, hYF0ξ⟩ (fun al halξ rna86ξ Pa86 Ga86 hexta86ξ hfra86ξ hoka86ξ hcsa86ξ hpsia86ξ => ?_)
        obtain rfl := List.mem_singleton.mp halξ
        have hra86ξ := zp_int (hoka86ξ _ rfl).1
        obtain ⟨hPea86ξ, ⟨Ma86, hMa86ξ, hVa86ξ, hSba86ξ⟩, hta86ξ⟩ := hpsia86ξ
        subst hPea86ξ
        clear hexta86ξ hfra86ξ hcsa86ξ hoka86ξ
        have hVa86ξ : ∀ o k, zNc o → Ma86 o k = (zf_adp1 (zf_clr3 V).2 p1ξ p2ξ).2 o k := hVa86ξ
        have hta86ξ : rna86ξ = ((zf_adp1 (zf_clr3 V).2 p1ξ p2ξ).1) := hta86ξ
        have hta86ξ := (Eq.symm hta86ξ)
        subst hta86ξ
        refine zp_call (pc := 62) (how := 0) (idx := 118) (mi := 17) (S := []) hx hb hEξ hwξ heffξ hrmξ (zX_ans hWξ A Y F (zf_adp1 (zf_clr3 V).2 p1ξ p2ξ).2) rfl (j := 12) rfl rfl (by decide +kernel) (zd_X11_person (62, .invokevirtual 118, 3, 0, []) (List.mem_of_getElem? (i := 32) rfl)) [(A 0 : Int), ((zf_adp1 (zf_clr3 V).2 p1ξ p2ξ).1)] rfl ⟨zp_o2 (zM_P hMa86ξ (hYbξ _ (List.mem_of_getElem? (i := 0) rfl))), zp_o0 (by omega) (by omega) (by omega) (by omega), trivial⟩ (Nat.le_of_ble_eq_true rfl) ⟨⟨Ma86, hMa86ξ, hVa86ξ, trivial⟩, rfl, hYF0ξ⟩ (fun al halξ rna87ξ Pa87 Ga87 hexta87ξ hfra87ξ hoka87ξ hcsa87ξ hpsia87ξ => ?_)
        obtain rfl := List.mem_singleton.mp halξ
        have hra87ξ := zp_int (hoka87ξ _ rfl).1
        obtain ⟨hPea87ξ, ⟨Ma87, hMa87ξ, hVa87ξ, hSba87ξ⟩, hta87ξ⟩ := hpsia87ξ
        subst hPea87ξ
        clear hexta87ξ hfra87ξ hcsa87ξ hoka87ξ
        have hVa87ξ : ∀ o k, zNc o → Ma87 o k = (zf_ans (zf_adp1 (zf_clr3 V).2 p1ξ p2ξ).2 ((zf_adp1 (zf_clr3 V).2 p1ξ p2ξ).1)).2 o k := hVa87ξ
        have hta87ξ : rna87ξ = ((zf_ans (zf_adp1 (zf_clr3 V).2 p1ξ p2ξ).2 ((zf_adp1 (zf_clr3 V).2 p1ξ p2ξ).1)).1) := hta87ξ
        have hta87ξ := (Eq.symm hta87ξ)
        subst hta87ξ
        refine zp_iret (pc := 65) (n := ((zf_ans (zf_adp1 (zf_clr3 V).2 p1ξ p2ξ).2 ((zf_adp1 (zf_clr3 V).2 p1ξ p2ξ).1)).1)) hx hb hEξ hQξ hU5ξ rfl (by decide) (zd_X11_person (65, .ireturn, 1, 0, []) (List.mem_of_getElem? (i := 33) rfl)) (j := 0) rfl (zp_o0 (by omega) (by omega) (by omega) (by omega)) ?_
        rw [hpsξ]
        refine ⟨rfl, ?_⟩
        have hffξ : zf_perc V p1ξ p2ξ = (((zf_ans (zf_adp1 (zf_clr3 V).2 p1ξ p2ξ).2 ((zf_adp1 (zf_clr3 V).2 p1ξ p2ξ).1)).1), (zf_ans (zf_adp1 (zf_clr3 V).2 p1ξ p2ξ).2 ((zf_adp1 (zf_clr3 V).2 p1ξ p2ξ).1)).2) := by
          unfold zf_perc
          rw [if_pos ((Iff.mp htn74ξ) (by omega)), if_pos ((Iff.mp htn79ξ) (by omega)), if_pos hc84ξ]
        show zMVc A Y F (zf_perc V p1ξ p2ξ).2 u.1 Ga87 ∧ ((zf_ans (zf_adp1 (zf_clr3 V).2 p1ξ p2ξ).2 ((zf_adp1 (zf_clr3 V).2 p1ξ p2ξ).1)).1) = (zf_perc V p1ξ p2ξ).1
        rw [hffξ]
        exact ⟨⟨Ma87, hMa87ξ, hVa87ξ, trivial⟩, rfl⟩
      · refine zp_load (pc := 38) hx hb (zd_X11_person (38, .aload_n 0, 1, 0, []) (List.mem_of_getElem? (i := 19) rfl)) rfl (j := 0) rfl ?_
        refine zp_const (pc := 39) hx hb (zd_X11_person (39, .bipush (-5), 2, 0, []) (List.mem_of_getElem? (i := 20) rfl)) rfl rfl ?_
        refine zp_call (pc := 41) (how := 0) (idx := 111) (mi := 16) (S := []) hx hb hEξ hwξ heffξ hrmξ (zX_rfs hWξ A Y F V) rfl (j := 11) rfl rfl (by decide +kernel) (zd_X11_person (41, .invokevirtual 111, 3, 0, []) (List.mem_of_getElem? (i := 21) rfl)) [(A 0 : Int), (-5)] rfl ⟨zp_o2 (zM_P hMξ (hYbξ _ (List.mem_of_getElem? (i := 0) rfl))), zp_o0 (by omega) (by omega) (by omega) (by omega), trivial⟩ (Nat.le_of_ble_eq_true rfl) ⟨⟨M, hMξ, hVξ, trivial⟩, rfl, hYF0ξ⟩ (fun al halξ rna88ξ Pa88 Ga88 hexta88ξ hfra88ξ hoka88ξ hcsa88ξ hpsia88ξ => ?_)
        obtain rfl := List.mem_singleton.mp halξ
        have hra88ξ := zp_int (hoka88ξ _ rfl).1
        obtain ⟨hPea88ξ, ⟨Ma88, hMa88ξ, hVa88ξ, hSba88ξ⟩, hta88ξ⟩ := hpsia88ξ
        subst hPea88ξ
        clear hexta88ξ hfra88ξ hcsa88ξ hoka88ξ
        have hVa88ξ : ∀ o k, zNc o → Ma88 o k = (zf_rfs V (-5)).2 o k := hVa88ξ
        have hta88ξ : rna88ξ = ((zf_rfs V (-5)).1) := hta88ξ
        have hta88ξ := (Eq.symm hta88ξ)
        subst hta88ξ
        refine zp_iret (pc := 44) (n := ((zf_rfs V (-5)).1)) hx hb hEξ hQξ hU5ξ rfl (by decide) (zd_X11_person (44, .ireturn, 1, 0, []) (List.mem_of_getElem? (i := 22) rfl)) (j := 0) rfl (zp_o0 (by omega) (by omega) (by omega) (by omega)) ?_
        rw [hpsξ]
        refine ⟨rfl, ?_⟩
        have hffξ : zf_perc V p1ξ p2ξ = (((zf_rfs V (-5)).1), (zf_rfs V (-5)).2) := by
          unfold zf_perc
          rw [if_pos ((Iff.mp htn74ξ) (by omega)), if_pos ((Iff.mp htn79ξ) (by omega)), if_neg hc84ξ]
        show zMVc A Y F (zf_perc V p1ξ p2ξ).2 u.1 Ga88 ∧ ((zf_rfs V (-5)).1) = (zf_perc V p1ξ p2ξ).1
        rw [hffξ]
        exact ⟨⟨Ma88, hMa88ξ, hVa88ξ, trivial⟩, rfl⟩
    · have hbf82ξ : ¬ (0 ≤ p2ξ ∧ p2ξ ≤ 7) := fun h9ξ => absurd ((Iff.mpr htn79ξ) h9ξ) (by omega)
      refine zp_load (pc := 20) hx hb (zd_X11_person (20, .aload_n 0, 1, 0, []) (List.mem_of_getElem? (i := 10) rfl)) rfl (j := 0) rfl ?_
      refine zp_const (pc := 21) hx hb (zd_X11_person (21, .iconst (-1), 1, 0, []) (List.mem_of_getElem? (i := 11) rfl)) rfl rfl ?_
      refine zp_call (pc := 22) (how := 0) (idx := 111) (mi := 16) (S := []) hx hb hEξ hwξ heffξ hrmξ (zX_rfs hWξ A Y F V) rfl (j := 11) rfl rfl (by decide +kernel) (zd_X11_person (22, .invokevirtual 111, 3, 0, []) (List.mem_of_getElem? (i := 12) rfl)) [(A 0 : Int), (-1)] rfl ⟨zp_o2 (zM_P hMξ (hYbξ _ (List.mem_of_getElem? (i := 0) rfl))), zp_o0 (by omega) (by omega) (by omega) (by omega), trivial⟩ (Nat.le_of_ble_eq_true rfl) ⟨⟨M, hMξ, hVξ, trivial⟩, rfl, hYF0ξ⟩ (fun al halξ rna89ξ Pa89 Ga89 hexta89ξ hfra89ξ hoka89ξ hcsa89ξ hpsia89ξ => ?_)
      obtain rfl := List.mem_singleton.mp halξ
      have hra89ξ := zp_int (hoka89ξ _ rfl).1
      obtain ⟨hPea89ξ, ⟨Ma89, hMa89ξ, hVa89ξ, hSba89ξ⟩, hta89ξ⟩ := hpsia89ξ
      subst hPea89ξ
      clear hexta89ξ hfra89ξ hcsa89ξ hoka89ξ
      have hVa89ξ : ∀ o k, zNc o → Ma89 o k = (zf_rfs V (-1)).2 o k := hVa89ξ
      have hta89ξ : rna89ξ = ((zf_rfs V (-1)).1) := hta89ξ
      have hta89ξ := (Eq.symm hta89ξ)
      subst hta89ξ
      refine zp_iret (pc := 25) (n := ((zf_rfs V (-1)).1)) hx hb hEξ hQξ hU5ξ rfl (by decide) (zd_X11_person (25, .ireturn, 1, 0, []) (List.mem_of_getElem? (i := 13) rfl)) (j := 0) rfl (zp_o0 (by omega) (by omega) (by omega) (by omega)) ?_
      rw [hpsξ]
      refine ⟨rfl, ?_⟩
      have hffξ : zf_perc V p1ξ p2ξ = (((zf_rfs V (-1)).1), (zf_rfs V (-1)).2) := by
        unfold zf_perc
        rw [if_pos ((Iff.mp htn74ξ) (by omega)), if_neg (fun h9ξ => absurd ((Iff.mpr htn79ξ) h9ξ) (by omega))]
      show zMVc A Y F (zf_perc V p1ξ p2ξ).2 u.1 Ga89 ∧ ((zf_rfs V (-1)).1) = (zf_perc V p1ξ p2ξ).1
      rw [hffξ]
      exact ⟨⟨Ma89, hMa89ξ, hVa89ξ, trivial⟩, rfl⟩
noncomputable def zf_oilc (V : Nat → Nat → Int) (p1ξ : Int) (p2ξ : Int) : Int × (Nat → Nat → Int) := if 0 ≤ p2ξ ∧ p2ξ ≤ 9 then if 0 ≤ p1ξ ∧ p1ξ < (V 1 1) ∧ p1ξ < 6 then (((zf_ans (zf_clr3 (zp_set V 50 (2000 + p1ξ.toNat) p2ξ)).2 (V 50 (2000 + p1ξ.toNat))).1), (zf_ans (zf_clr3 (zp_set V 50 (2000 + p1ξ.toNat) p2ξ)).2 (V 50 (2000 + p1ξ.toNat))).2) else (((zf_rfs V (-2)).1), (zf_rfs V (-2)).2) else (((zf_rfs V (-1)).1), (zf_rfs V (-1)).2)
noncomputable def zK_oilc : zk_K := (zt_mn 21, prog_1_method_4_code, 4, (Option.some Jvm.ClassFile.FieldType.int), 1, 11, [(2, 12, 0, 0), (0, 0, (-2147483648), 2147483647), (0, 0, (-2147483648), 2147483647)], [(some (0, 0, (-2147483648), 2147483647), [])], zUC, (2, 180, 0, 0))
noncomputable def zφ_oilc (A : Nat → Nat) (Y : List (Nat × Nat)) (F : List (Nat × Nat × Nat)) (V : Nat → Nat → Int) : (Nat → Option Nat) → (Nat → Nat → Int) → List Int → Prop := fun P G ps => zMVc A Y F V P G ∧ ps.getD 0 0 = (A 0 : Int) ∧ zMc Y F
noncomputable def zψ_oilc (A : Nat → Nat) (Y : List (Nat × Nat)) (F : List (Nat × Nat × Nat)) (V : Nat → Nat → Int) : (Nat → Option Nat) → (Nat → Nat → Int) → List Int → (Nat → Option Nat) → (Nat → Nat → Int) → Int → Prop := fun P G ps P' G' rn => P' = P ∧ zMVc A Y F (zf_oilc V (ps.getD 1 0) (ps.getD 2 0)).2 P' G' ∧ rn = (zf_oilc V (ps.getD 1 0) (ps.getD 2 0)).1
theorem zX_oilc {l : Launch} {w : zk_W} (hWξ : zh_W w) (A : Nat → Nat) (Y : List (Nat × Nat)) (F : List (Nat × Nat × Nat)) (V : Nat → Nat → Int) : zk_metX l w zt_dv zt_TB zK_oilc (zp_A (zφ_oilc A Y F V)) (zp_B (zψ_oilc A Y F V)) ∧ zk_cok w zt_TB zK_oilc := by
  refine zp_methX (cn := "WoundTown") zp_lkallW hWξ (pl := 631) rfl (by decide +kernel) (fun p e R s m args below meth c Q u hx hb hEξ hQξ hU5ξ heffξ hnLξ hokξ hφ => ?_)
  have hwξ := hWξ.1
  obtain ⟨p0ξ, p1ξ, p2ξ, hpsξ, tk0, tk1, tk2⟩ := zp_ps3 hokξ
  have hrmξ : zk_Kr (zk_ev (zt_types, zp_lkW, zt_dv, [], [], zp_lcW, zK_oilc)) = zk_Kr zK_oilc := rfl
  rw [hpsξ] at hφ ⊢
  have hφ : zMVc A Y F V u.1 (zp_n u.2.1) ∧ p0ξ = (A 0 : Int) ∧ zMc Y F := hφ
  obtain ⟨⟨M, hMξ, hVξ, hSbξ⟩, rfl, hYFξ⟩ := hφ
  have hYF0ξ := hYFξ
  obtain ⟨hYbξ, hFbξ, hFxξ, -⟩ := hYFξ
  have hi1ξ := zp_int tk1
  have hi2ξ := zp_int tk2
  show zp_J p l e R s m args below meth c Q w u [] 0 [(0, 2, (A 0 : Int)), (1, 0, p1ξ), (2, 0, p2ξ)] [] u.1 (zp_n u.2.1)
  refine zp_load (pc := 0) hx hb (zd_X11_oil (0, .iload_n 2, 1, 0, []) (List.mem_of_getElem? (i := 0) rfl)) rfl (j := 2) rfl ?_
  refine zp_const (pc := 1) hx hb (zd_X11_oil (1, .iconst 0, 1, 0, []) (List.mem_of_getElem? (i := 1) rfl)) rfl rfl ?_
  refine zp_const (pc := 2) hx hb (zd_X11_oil (2, .bipush 9, 2, 0, []) (List.mem_of_getElem? (i := 2) rfl)) rfl rfl ?_
  refine zp_call (pc := 4) (how := 1) (idx := 107) (mi := 15) (S := []) hx hb hEξ hwξ heffξ hrmξ (zX_iwn hWξ) rfl (j := 10) rfl rfl (by decide +kernel) (zd_X11_oil (4, .invokestatic 107, 3, 0, []) (List.mem_of_getElem? (i := 3) rfl)) [p2ξ, 0, 9] rfl ⟨zp_o0 (by omega) (by omega) (by omega) (by omega), zp_o0 (by omega) (by omega) (by omega) (by omega), zp_o0 (by omega) (by omega) (by omega) (by omega), trivial⟩ (Nat.le_of_ble_eq_true rfl) trivial (fun al halξ rnn90ξ Pn90 Gn90 hextn90ξ hfrn90ξ hokn90ξ hcsn90ξ hpsin90ξ => ?_)
  obtain rfl := List.mem_singleton.mp halξ
  have hrn90ξ := zp_int (hokn90ξ _ rfl).1
  obtain ⟨hPen90ξ, hGen90ξ, htn90ξ⟩ := hpsin90ξ
  rw [hPen90ξ, hGen90ξ]
  clear hextn90ξ hfrn90ξ hcsn90ξ hPen90ξ hGen90ξ
  have htn90ξ : rnn90ξ = 1 ↔ 0 ≤ p2ξ ∧ p2ξ ≤ 9 := htn90ξ
  refine zp_if (pc := 7) (tgt := 16) hx hb (zd_X11_oil (7, .ifCond .ne 9, 3, 0, []) (List.mem_of_getElem? (i := 4) rfl)) rfl (fun (hc91ξ : ¬ rnn90ξ = 0) => ?_) (fun (hc91ξ : ¬ (¬ rnn90ξ = 0)) => ?_)
  · have hbt92ξ := (Iff.mp htn90ξ) (by omega)
    refine zp_load (pc := 16) hx hb (zd_X11_oil (16, .aload_n 0, 1, 0, []) (List.mem_of_getElem? (i := 9) rfl)) rfl (j := 0) rfl ?_
    refine zp_getf (n := (A 1 : Int)) (pc := 17) hx hb hEξ hwξ (zd_X11_oil (17, .getfield 10, 3, 0, []) (List.mem_of_getElem? (i := 10) rfl)) (j := 50) rfl rfl rfl (zM_P hMξ (hYbξ _ (List.mem_of_getElem? (i := 0) rfl))) ((zM_G hMξ (hYbξ _ (List.mem_of_getElem? (i := 0) rfl)) 0).trans (zM_F hMξ (hFbξ _ (List.mem_of_getElem? (i := 0) rfl)))) ?_
    refine zp_load (pc := 20) hx hb (zd_X11_oil (20, .iload_n 1, 1, 0, []) (List.mem_of_getElem? (i := 11) rfl)) rfl (j := 1) rfl ?_
    refine zp_call (pc := 21) (how := 0) (idx := 131) (mi := 22) (S := []) hx hb hEξ hwξ heffξ hrmξ (zX_hpe1 hWξ A Y F M) rfl (j := 15) rfl rfl (by decide +kernel) (zd_X11_oil (21, .invokevirtual 131, 3, 0, []) (List.mem_of_getElem? (i := 12) rfl)) [(A 1 : Int), p1ξ] rfl ⟨zp_o2 (zM_P hMξ (hYbξ _ (List.mem_of_getElem? (i := 1) rfl))), zp_o0 (by omega) (by omega) (by omega) (by omega), trivial⟩ (Nat.le_of_ble_eq_true rfl) ⟨hMξ, rfl, hYF0ξ⟩ (fun al halξ rni94ξ Pi94 Gi94 hexti94ξ hfri94ξ hoki94ξ hcsi94ξ hpsii94ξ => ?_)
    obtain rfl := List.mem_singleton.mp halξ
    have hri94ξ := zp_int (hoki94ξ _ rfl).1
    obtain ⟨hPei94ξ, hGei94ξ, hti94ξ⟩ := hpsii94ξ
    rw [hPei94ξ, hGei94ξ]
    clear hexti94ξ hfri94ξ hcsi94ξ hPei94ξ hGei94ξ
    have hti94ξ : rni94ξ = 1 ↔ 0 ≤ p1ξ ∧ p1ξ < (V 1 1) ∧ p1ξ < 6 := by
      have h9ξ : rni94ξ = 1 ↔ 0 ≤ p1ξ ∧ p1ξ < M 1 1 ∧ p1ξ < 6 := hti94ξ
      rw [(hVξ 1 1 (by decide))] at h9ξ
      exact h9ξ
    refine zp_if (pc := 24) (tgt := 34) hx hb (zd_X11_oil (24, .ifCond .ne 10, 3, 0, []) (List.mem_of_getElem? (i := 13) rfl)) rfl (fun (hc95ξ : ¬ rni94ξ = 0) => ?_) (fun (hc95ξ : ¬ (¬ rni94ξ = 0)) => ?_)
    · have hbt96ξ := (Iff.mp hti94ξ) (by omega)
      refine zp_load (pc := 34) hx hb (zd_X11_oil (34, .aload_n 0, 1, 0, []) (List.mem_of_getElem? (i := 18) rfl)) rfl (j := 0) rfl ?_
      refine zp_getf (n := (A 1 : Int)) (pc := 35) hx hb hEξ hwξ (zd_X11_oil (35, .getfield 10, 3, 0, []) (List.mem_of_getElem? (i := 19) rfl)) (j := 50) rfl rfl rfl (zM_P hMξ (hYbξ _ (List.mem_of_getElem? (i := 0) rfl))) ((zM_G hMξ (hYbξ _ (List.mem_of_getElem? (i := 0) rfl)) 0).trans (zM_F hMξ (hFbξ _ (List.mem_of_getElem? (i := 0) rfl)))) ?_
      refine zp_getf (n := (A 2 : Int)) (pc := 38) hx hb hEξ hwξ (zd_X11_oil (38, .getfield 135, 3, 0, []) (List.mem_of_getElem? (i := 20) rfl)) (j := 24) rfl rfl rfl (zM_P hMξ (hYbξ _ (List.mem_of_getElem? (i := 1) rfl))) ((zM_G hMξ (hYbξ _ (List.mem_of_getElem? (i := 1) rfl)) 18).trans (zM_F hMξ (hFbξ _ (List.mem_of_getElem? (i := 24) rfl)))) ?_
      refine zp_getf (n := (A 50 : Int)) (pc := 41) hx hb hEξ hwξ (zd_X11_oil (41, .getfield 138, 3, 0, []) (List.mem_of_getElem? (i := 21) rfl)) (j := 2) rfl rfl rfl (zM_P hMξ (hYbξ _ (List.mem_of_getElem? (i := 2) rfl))) ((zM_G hMξ (hYbξ _ (List.mem_of_getElem? (i := 2) rfl)) 0).trans (zM_F hMξ (hFbξ _ (List.mem_of_getElem? (i := 25) rfl)))) ?_
      refine zp_load (pc := 44) hx hb (zd_X11_oil (44, .iload_n 1, 1, 0, []) (List.mem_of_getElem? (i := 22) rfl)) rfl (j := 1) rfl ?_
      refine zp_iald (j := p1ξ.toNat) (v := (V 50 (2000 + p1ξ.toNat))) (pc := 45) hx hb hwξ (zd_X11_oil (45, .iaload, 1, 0, []) (List.mem_of_getElem? (i := 23) rfl)) (show zp_ia 1 17 = some (6, 0, 0, (-2147483648), 2147483647) from rfl) (zM_P hMξ (hYbξ _ (List.mem_of_getElem? (i := 28) rfl))) (by omega) (by omega) ((zM_G hMξ (hYbξ _ (List.mem_of_getElem? (i := 28) rfl)) (2000 + p1ξ.toNat)).trans (hVξ 50 (2000 + p1ξ.toNat) (by decide))) (fun hk98ξ => ?_)
      have hk98bξ := zp_int hk98ξ
      clear hk98ξ
      refine zp_store (L' := [(3, 0, (V 50 (2000 + p1ξ.toNat))), (0, 2, (A 0 : Int)), (1, 0, p1ξ), (2, 0, p2ξ)]) (pc := 46) hx hb hnLξ (zd_X11_oil (46, .istore_n 3, 1, 0, []) (List.mem_of_getElem? (i := 24) rfl)) rfl rfl rfl ?_
      refine zp_load (pc := 47) hx hb (zd_X11_oil (47, .aload_n 0, 1, 0, []) (List.mem_of_getElem? (i := 25) rfl)) rfl (j := 1) rfl ?_
      refine zp_getf (n := (A 1 : Int)) (pc := 48) hx hb hEξ hwξ (zd_X11_oil (48, .getfield 10, 3, 0, []) (List.mem_of_getElem? (i := 26) rfl)) (j := 50) rfl rfl rfl (zM_P hMξ (hYbξ _ (List.mem_of_getElem? (i := 0) rfl))) ((zM_G hMξ (hYbξ _ (List.mem_of_getElem? (i := 0) rfl)) 0).trans (zM_F hMξ (hFbξ _ (List.mem_of_getElem? (i := 0) rfl)))) ?_
      refine zp_getf (n := (A 2 : Int)) (pc := 51) hx hb hEξ hwξ (zd_X11_oil (51, .getfield 135, 3, 0, []) (List.mem_of_getElem? (i := 27) rfl)) (j := 24) rfl rfl rfl (zM_P hMξ (hYbξ _ (List.mem_of_getElem? (i := 1) rfl))) ((zM_G hMξ (hYbξ _ (List.mem_of_getElem? (i := 1) rfl)) 18).trans (zM_F hMξ (hFbξ _ (List.mem_of_getElem? (i := 24) rfl)))) ?_
      refine zp_getf (n := (A 50 : Int)) (pc := 54) hx hb hEξ hwξ (zd_X11_oil (54, .getfield 138, 3, 0, []) (List.mem_of_getElem? (i := 28) rfl)) (j := 2) rfl rfl rfl (zM_P hMξ (hYbξ _ (List.mem_of_getElem? (i := 2) rfl))) ((zM_G hMξ (hYbξ _ (List.mem_of_getElem? (i := 2) rfl)) 0).trans (zM_F hMξ (hFbξ _ (List.mem_of_getElem? (i := 25) rfl)))) ?_
      refine zp_load (pc := 57) hx hb (zd_X11_oil (57, .iload_n 1, 1, 0, []) (List.mem_of_getElem? (i := 29) rfl)) rfl (j := 2) rfl ?_
      refine zp_load (pc := 58) hx hb (zd_X11_oil (58, .iload_n 2, 1, 0, []) (List.mem_of_getElem? (i := 30) rfl)) rfl (j := 3) rfl ?_
      refine zp_iast (j := p1ξ.toNat) (pc := 59) hx hb hwξ heffξ (zd_X11_oil (59, .iastore, 1, 0, []) (List.mem_of_getElem? (i := 31) rfl)) (show zp_ia 1 17 = some (6, 0, 0, (-2147483648), 2147483647) from rfl) (zM_P hMξ (hYbξ _ (List.mem_of_getElem? (i := 28) rfl))) (by omega) (by omega) (zp_o0 (by omega) (by omega) (by omega) (by omega)) rfl ?_
      refine zp_load (pc := 60) hx hb (zd_X11_oil (60, .aload_n 0, 1, 0, []) (List.mem_of_getElem? (i := 32) rfl)) rfl (j := 1) rfl ?_
      refine zp_getf (n := (A 3 : Int)) (pc := 61) hx hb hEξ hwξ (zd_X11_oil (61, .getfield 23, 3, 0, []) (List.mem_of_getElem? (i := 33) rfl)) (j := 52) rfl rfl rfl (zM_P hMξ (hYbξ _ (List.mem_of_getElem? (i := 0) rfl))) ((zp_set_ne (Or.inl (zM_ne hMξ (hYbξ _ (List.mem_of_getElem? (i := 0) rfl)) (hYbξ _ (List.mem_of_getElem? (i := 28) rfl)) (by decide)))).trans (((zM_G hMξ (hYbξ _ (List.mem_of_getElem? (i := 0) rfl)) 2).trans (zM_F hMξ (hFbξ _ (List.mem_of_getElem? (i := 2) rfl)))))) ?_
      refine zp_call (pc := 64) (how := 0) (idx := 124) (mi := 19) (S := []) hx hb hEξ hwξ heffξ hrmξ (zX_clr3 hWξ A Y F (zp_set V 50 (2000 + p1ξ.toNat) p2ξ)) rfl (j := 13) rfl rfl (by decide +kernel) (zd_X11_oil (64, .invokevirtual 124, 3, 0, []) (List.mem_of_getElem? (i := 34) rfl)) [(A 3 : Int)] rfl ⟨zp_o2 (zM_P hMξ (hYbξ _ (List.mem_of_getElem? (i := 3) rfl))), trivial⟩ (Nat.le_of_ble_eq_true rfl) ⟨⟨(zp_set M 50 (2000 + p1ξ.toNat) p2ξ), (zM_setE hMξ (hYbξ _ (List.mem_of_getElem? (i := 28) rfl))), (zV_set hVξ), trivial⟩, rfl, hYF0ξ⟩ (fun al halξ rna99ξ Pa99 Ga99 hexta99ξ hfra99ξ hoka99ξ hcsa99ξ hpsia99ξ => ?_)
      obtain rfl := List.mem_singleton.mp halξ
      obtain ⟨hPea99ξ, Ma99, hMa99ξ, hVa99ξ, hSba99ξ⟩ := hpsia99ξ
      subst hPea99ξ
      clear hexta99ξ hfra99ξ hcsa99ξ hoka99ξ
      have hVa99ξ : ∀ o k, zNc o → Ma99 o k = (zf_clr3 (zp_set V 50 (2000 + p1ξ.toNat) p2ξ)).2 o k := hVa99ξ
      refine zp_load (pc := 67) hx hb (zd_X11_oil (67, .aload_n 0, 1, 0, []) (List.mem_of_getElem? (i := 35) rfl)) rfl (j := 1) rfl ?_
      refine zp_load (pc := 68) hx hb (zd_X11_oil (68, .iload_n 3, 1, 0, []) (List.mem_of_getElem? (i := 36) rfl)) rfl (j := 0) rfl ?_
      refine zp_call (pc := 69) (how := 0) (idx := 118) (mi := 17) (S := []) hx hb hEξ hwξ heffξ hrmξ (zX_ans hWξ A Y F (zf_clr3 (zp_set V 50 (2000 + p1ξ.toNat) p2ξ)).2) rfl (j := 12) rfl rfl (by decide +kernel) (zd_X11_oil (69, .invokevirtual 118, 3, 0, []) (List.mem_of_getElem? (i := 37) rfl)) [(A 0 : Int), (V 50 (2000 + p1ξ.toNat))] rfl ⟨zp_o2 (zM_P hMa99ξ (hYbξ _ (List.mem_of_getElem? (i := 0) rfl))), zp_o0 (by omega) (by omega) (by omega) (by omega), trivial⟩ (Nat.le_of_ble_eq_true rfl) ⟨⟨Ma99, hMa99ξ, hVa99ξ, trivial⟩, rfl, hYF0ξ⟩ (fun al halξ rna100ξ Pa100 Ga100 hexta100ξ hfra100ξ hoka100ξ hcsa100ξ hpsia100ξ => ?_)
      obtain rfl := List.mem_singleton.mp halξ
      have hra100ξ := zp_int (hoka100ξ _ rfl).1
      obtain ⟨hPea100ξ, ⟨Ma100, hMa100ξ, hVa100ξ, hSba100ξ⟩, hta100ξ⟩ := hpsia100ξ
      subst hPea100ξ
      clear hexta100ξ hfra100ξ hcsa100ξ hoka100ξ
      have hVa100ξ : ∀ o k, zNc o → Ma100 o k = (zf_ans (zf_clr3 (zp_set V 50 (2000 + p1ξ.toNat) p2ξ)).2 (V 50 (2000 + p1ξ.toNat))).2 o k := hVa100ξ
      have hta100ξ : rna100ξ = ((zf_ans (zf_clr3 (zp_set V 50 (2000 + p1ξ.toNat) p2ξ)).2 (V 50 (2000 + p1ξ.toNat))).1) := hta100ξ
      have hta100ξ := (Eq.symm hta100ξ)
      subst hta100ξ
      refine zp_iret (pc := 72) (n := ((zf_ans (zf_clr3 (zp_set V 50 (2000 + p1ξ.toNat) p2ξ)).2 (V 50 (2000 + p1ξ.toNat))).1)) hx hb hEξ hQξ hU5ξ rfl (by decide) (zd_X11_oil (72, .ireturn, 1, 0, []) (List.mem_of_getElem? (i := 38) rfl)) (j := 0) rfl (zp_o0 (by omega) (by omega) (by omega) (by omega)) ?_
      rw [hpsξ]
      refine ⟨rfl, ?_⟩
      have hffξ : zf_oilc V p1ξ p2ξ = (((zf_ans (zf_clr3 (zp_set V 50 (2000 + p1ξ.toNat) p2ξ)).2 (V 50 (2000 + p1ξ.toNat))).1), (zf_ans (zf_clr3 (zp_set V 50 (2000 + p1ξ.toNat) p2ξ)).2 (V 50 (2000 + p1ξ.toNat))).2) := by
        unfold zf_oilc
        rw [if_pos ((Iff.mp htn90ξ) (by omega)), if_pos ((Iff.mp hti94ξ) (by omega))]
      show zMVc A Y F (zf_oilc V p1ξ p2ξ).2 u.1 Ga100 ∧ ((zf_ans (zf_clr3 (zp_set V 50 (2000 + p1ξ.toNat) p2ξ)).2 (V 50 (2000 + p1ξ.toNat))).1) = (zf_oilc V p1ξ p2ξ).1
      rw [hffξ]
      exact ⟨⟨Ma100, hMa100ξ, hVa100ξ, trivial⟩, rfl⟩
    · have hbf97ξ : ¬ (0 ≤ p1ξ ∧ p1ξ < (V 1 1) ∧ p1ξ < 6) := fun h9ξ => absurd ((Iff.mpr hti94ξ) h9ξ) (by omega)
      refine zp_load (pc := 27) hx hb (zd_X11_oil (27, .aload_n 0, 1, 0, []) (List.mem_of_getElem? (i := 14) rfl)) rfl (j := 0) rfl ?_
      refine zp_const (pc := 28) hx hb (zd_X11_oil (28, .bipush (-2), 2, 0, []) (List.mem_of_getElem? (i := 15) rfl)) rfl rfl ?_
      refine zp_call (pc := 30) (how := 0) (idx := 111) (mi := 16) (S := []) hx hb hEξ hwξ heffξ hrmξ (zX_rfs hWξ A Y F V) rfl (j := 11) rfl rfl (by decide +kernel) (zd_X11_oil (30, .invokevirtual 111, 3, 0, []) (List.mem_of_getElem? (i := 16) rfl)) [(A 0 : Int), (-2)] rfl ⟨zp_o2 (zM_P hMξ (hYbξ _ (List.mem_of_getElem? (i := 0) rfl))), zp_o0 (by omega) (by omega) (by omega) (by omega), trivial⟩ (Nat.le_of_ble_eq_true rfl) ⟨⟨M, hMξ, hVξ, trivial⟩, rfl, hYF0ξ⟩ (fun al halξ rna101ξ Pa101 Ga101 hexta101ξ hfra101ξ hoka101ξ hcsa101ξ hpsia101ξ => ?_)
      obtain rfl := List.mem_singleton.mp halξ
      have hra101ξ := zp_int (hoka101ξ _ rfl).1
      obtain ⟨hPea101ξ, ⟨Ma101, hMa101ξ, hVa101ξ, hSba101ξ⟩, hta101ξ⟩ := hpsia101ξ
      subst hPea101ξ
      clear hexta101ξ hfra101ξ hcsa101ξ hoka101ξ
      have hVa101ξ : ∀ o k, zNc o → Ma101 o k = (zf_rfs V (-2)).2 o k := hVa101ξ
      have hta101ξ : rna101ξ = ((zf_rfs V (-2)).1) := hta101ξ
      have hta101ξ := (Eq.symm hta101ξ)
      subst hta101ξ
      refine zp_iret (pc := 33) (n := ((zf_rfs V (-2)).1)) hx hb hEξ hQξ hU5ξ rfl (by decide) (zd_X11_oil (33, .ireturn, 1, 0, []) (List.mem_of_getElem? (i := 17) rfl)) (j := 0) rfl (zp_o0 (by omega) (by omega) (by omega) (by omega)) ?_
      rw [hpsξ]
      refine ⟨rfl, ?_⟩
      have hffξ : zf_oilc V p1ξ p2ξ = (((zf_rfs V (-2)).1), (zf_rfs V (-2)).2) := by
        unfold zf_oilc
        rw [if_pos ((Iff.mp htn90ξ) (by omega)), if_neg (fun h9ξ => absurd ((Iff.mpr hti94ξ) h9ξ) (by omega))]
      show zMVc A Y F (zf_oilc V p1ξ p2ξ).2 u.1 Ga101 ∧ ((zf_rfs V (-2)).1) = (zf_oilc V p1ξ p2ξ).1
      rw [hffξ]
      exact ⟨⟨Ma101, hMa101ξ, hVa101ξ, trivial⟩, rfl⟩
  · have hbf93ξ : ¬ (0 ≤ p2ξ ∧ p2ξ ≤ 9) := fun h9ξ => absurd ((Iff.mpr htn90ξ) h9ξ) (by omega)
    refine zp_load (pc := 10) hx hb (zd_X11_oil (10, .aload_n 0, 1, 0, []) (List.mem_of_getElem? (i := 5) rfl)) rfl (j := 0) rfl ?_
    refine zp_const (pc := 11) hx hb (zd_X11_oil (11, .iconst (-1), 1, 0, []) (List.mem_of_getElem? (i := 6) rfl)) rfl rfl ?_
    refine zp_call (pc := 12) (how := 0) (idx := 111) (mi := 16) (S := []) hx hb hEξ hwξ heffξ hrmξ (zX_rfs hWξ A Y F V) rfl (j := 11) rfl rfl (by decide +kernel) (zd_X11_oil (12, .invokevirtual 111, 3, 0, []) (List.mem_of_getElem? (i := 7) rfl)) [(A 0 : Int), (-1)] rfl ⟨zp_o2 (zM_P hMξ (hYbξ _ (List.mem_of_getElem? (i := 0) rfl))), zp_o0 (by omega) (by omega) (by omega) (by omega), trivial⟩ (Nat.le_of_ble_eq_true rfl) ⟨⟨M, hMξ, hVξ, trivial⟩, rfl, hYF0ξ⟩ (fun al halξ rna102ξ Pa102 Ga102 hexta102ξ hfra102ξ hoka102ξ hcsa102ξ hpsia102ξ => ?_)
    obtain rfl := List.mem_singleton.mp halξ
    have hra102ξ := zp_int (hoka102ξ _ rfl).1
    obtain ⟨hPea102ξ, ⟨Ma102, hMa102ξ, hVa102ξ, hSba102ξ⟩, hta102ξ⟩ := hpsia102ξ
    subst hPea102ξ
    clear hexta102ξ hfra102ξ hcsa102ξ hoka102ξ
    have hVa102ξ : ∀ o k, zNc o → Ma102 o k = (zf_rfs V (-1)).2 o k := hVa102ξ
    have hta102ξ : rna102ξ = ((zf_rfs V (-1)).1) := hta102ξ
    have hta102ξ := (Eq.symm hta102ξ)
    subst hta102ξ
    refine zp_iret (pc := 15) (n := ((zf_rfs V (-1)).1)) hx hb hEξ hQξ hU5ξ rfl (by decide) (zd_X11_oil (15, .ireturn, 1, 0, []) (List.mem_of_getElem? (i := 8) rfl)) (j := 0) rfl (zp_o0 (by omega) (by omega) (by omega) (by omega)) ?_
    rw [hpsξ]
    refine ⟨rfl, ?_⟩
    have hffξ : zf_oilc V p1ξ p2ξ = (((zf_rfs V (-1)).1), (zf_rfs V (-1)).2) := by
      unfold zf_oilc
      rw [if_neg (fun h9ξ => absurd ((Iff.mpr htn90ξ) h9ξ) (by omega))]
    show zMVc A Y F (zf_oilc V p1ξ p2ξ).2 u.1 Ga102 ∧ ((zf_rfs V (-1)).1) = (zf_oilc V p1ξ p2ξ).1
    rw [hffξ]
    exact ⟨⟨Ma102, hMa102ξ, hVa102ξ, trivial⟩, rfl⟩
noncomputable def zf_wrkc (V : Nat → Nat → Int) (p1ξ : Int) (p2ξ : Int) (p3ξ : Int) (p4ξ : Int) (p5ξ : Int) : Int × (Nat → Nat → Int) := if 1 ≤ p2ξ ∧ p2ξ ≤ 600 then if 0 ≤ p3ξ ∧ p3ξ ≤ 23 then if 1 ≤ p4ξ ∧ p4ξ ≤ 99 then if 0 ≤ p1ξ ∧ p1ξ < (V 1 1) ∧ p1ξ < 6 then if p5ξ = (-1) then if (V 1 3) < 10 then (((zf_ans (zf_adw1 (zf_clr3 V).2 p1ξ p2ξ p3ξ p4ξ p5ξ).2 ((zf_adw1 (zf_clr3 V).2 p1ξ p2ξ p3ξ p4ξ p5ξ).1)).1), (zf_ans (zf_adw1 (zf_clr3 V).2 p1ξ p2ξ p3ξ p4ξ p5ξ).2 ((zf_adw1 (zf_clr3 V).2 p1ξ p2ξ p3ξ p4ξ p5ξ).1)).2) else (((zf_rfs V (-5)).1), (zf_rfs V (-5)).2) else if 0 ≤ p5ξ ∧ p5ξ < (V 1 3) ∧ p5ξ < 10 then if (V 1 3) < 10 then (((zf_ans (zf_adw1 (zf_clr3 V).2 p1ξ p2ξ p3ξ p4ξ p5ξ).2 ((zf_adw1 (zf_clr3 V).2 p1ξ p2ξ p3ξ p4ξ p5ξ).1)).1), (zf_ans (zf_adw1 (zf_clr3 V).2 p1ξ p2ξ p3ξ p4ξ p5ξ).2 ((zf_adw1 (zf_clr3 V).2 p1ξ p2ξ p3ξ p4ξ p5ξ).1)).2) else (((zf_rfs V (-5)).1), (zf_rfs V (-5)).2) else (((zf_rfs V (-2)).1), (zf_rfs V (-2)).2) else (((zf_rfs V (-2)).1), (zf_rfs V (-2)).2) else (((zf_rfs V (-1)).1), (zf_rfs V (-1)).2) else (((zf_rfs V (-1)).1), (zf_rfs V (-1)).2) else (((zf_rfs V (-1)).1), (zf_rfs V (-1)).2)
noncomputable def zK_wrkc : zk_K := (zt_mn 27, prog_1_method_6_code, 6, (Option.some Jvm.ClassFile.FieldType.int), 1, 11, [(2, 12, 0, 0), (0, 0, (-2147483648), 2147483647), (0, 0, (-2147483648), 2147483647), (0, 0, (-2147483648), 2147483647), (0, 0, (-2147483648), 2147483647), (0, 0, (-2147483648), 2147483647)], [(some (0, 0, (-2147483648), 2147483647), [])], zUC, (2, 180, 0, 0))
noncomputable def zφ_wrkc (A : Nat → Nat) (Y : List (Nat × Nat)) (F : List (Nat × Nat × Nat)) (V : Nat → Nat → Int) : (Nat → Option Nat) → (Nat → Nat → Int) → List Int → Prop := fun P G ps => zMVc A Y F V P G ∧ ps.getD 0 0 = (A 0 : Int) ∧ zMc Y F
noncomputable def zψ_wrkc (A : Nat → Nat) (Y : List (Nat × Nat)) (F : List (Nat × Nat × Nat)) (V : Nat → Nat → Int) : (Nat → Option Nat) → (Nat → Nat → Int) → List Int → (Nat → Option Nat) → (Nat → Nat → Int) → Int → Prop := fun P G ps P' G' rn => P' = P ∧ zMVc A Y F (zf_wrkc V (ps.getD 1 0) (ps.getD 2 0) (ps.getD 3 0) (ps.getD 4 0) (ps.getD 5 0)).2 P' G' ∧ rn = (zf_wrkc V (ps.getD 1 0) (ps.getD 2 0) (ps.getD 3 0) (ps.getD 4 0) (ps.getD 5 0)).1
theorem zX_wrkc {l : Launch} {w : zk_W} (hWξ : zh_W w) (A : Nat → Nat) (Y : List (Nat × Nat)) (F : List (Nat × Nat × Nat)) (V : Nat → Nat → Int) : zk_metX l w zt_dv zt_TB zK_wrkc (zp_A (zφ_wrkc A Y F V)) (zp_B (zψ_wrkc A Y F V)) ∧ zk_cok w zt_TB zK_wrkc := by
  refine zp_methX (cn := "WoundTown") zp_lkallW hWξ (pl := 655) rfl (by decide +kernel) (fun p e R s m args below meth c Q u hx hb hEξ hQξ hU5ξ heffξ hnLξ hokξ hφ => ?_)
  have hwξ := hWξ.1
  obtain ⟨p0ξ, p1ξ, p2ξ, p3ξ, p4ξ, p5ξ, hpsξ, tk0, tk1, tk2, tk3, tk4, tk5⟩ := zp_ps6 hokξ
  have hrmξ : zk_Kr (zk_ev (zt_types, zp_lkW, zt_dv, [], [], zp_lcW, zK_wrkc)) = zk_Kr zK_wrkc := rfl
  rw [hpsξ] at hφ ⊢
  have hφ : zMVc A Y F V u.1 (zp_n u.2.1) ∧ p0ξ = (A 0 : Int) ∧ zMc Y F := hφ
  obtain ⟨⟨M, hMξ, hVξ, hSbξ⟩, rfl, hYFξ⟩ := hφ
  have hYF0ξ := hYFξ
  obtain ⟨hYbξ, hFbξ, hFxξ, -⟩ := hYFξ
  have hi1ξ := zp_int tk1
  have hi2ξ := zp_int tk2
  have hi3ξ := zp_int tk3
  have hi4ξ := zp_int tk4
  have hi5ξ := zp_int tk5
  show zp_J p l e R s m args below meth c Q w u [] 0 [(0, 2, (A 0 : Int)), (1, 0, p1ξ), (2, 0, p2ξ), (3, 0, p3ξ), (4, 0, p4ξ), (5, 0, p5ξ)] [] u.1 (zp_n u.2.1)
  refine zp_load (pc := 0) hx hb (zd_X11_work (0, .iload_n 2, 1, 0, []) (List.mem_of_getElem? (i := 0) rfl)) rfl (j := 2) rfl ?_
  refine zp_const (pc := 1) hx hb (zd_X11_work (1, .iconst 1, 1, 0, []) (List.mem_of_getElem? (i := 1) rfl)) rfl rfl ?_
  refine zp_const (pc := 2) hx hb (zd_X11_work (2, .sipush 600, 3, 0, []) (List.mem_of_getElem? (i := 2) rfl)) rfl rfl ?_
  refine zp_call (pc := 5) (how := 1) (idx := 107) (mi := 15) (S := []) hx hb hEξ hwξ heffξ hrmξ (zX_iwn hWξ) rfl (j := 10) rfl rfl (by decide +kernel) (zd_X11_work (5, .invokestatic 107, 3, 0, []) (List.mem_of_getElem? (i := 3) rfl)) [p2ξ, 1, 600] rfl ⟨zp_o0 (by omega) (by omega) (by omega) (by omega), zp_o0 (by omega) (by omega) (by omega) (by omega), zp_o0 (by omega) (by omega) (by omega) (by omega), trivial⟩ (Nat.le_of_ble_eq_true rfl) trivial (fun al halξ rnn103ξ Pn103 Gn103 hextn103ξ hfrn103ξ hokn103ξ hcsn103ξ hpsin103ξ => ?_)
  obtain rfl := List.mem_singleton.mp halξ
  have hrn103ξ := zp_int (hokn103ξ _ rfl).1
  obtain ⟨hPen103ξ, hGen103ξ, htn103ξ⟩ := hpsin103ξ
  rw [hPen103ξ, hGen103ξ]
  clear hextn103ξ hfrn103ξ hcsn103ξ hPen103ξ hGen103ξ
  have htn103ξ : rnn103ξ = 1 ↔ 1 ≤ p2ξ ∧ p2ξ ≤ 600 := htn103ξ
  refine zp_if (pc := 8) (tgt := 32) hx hb (zd_X11_work (8, .ifCond .eq 24, 3, 0, []) (List.mem_of_getElem? (i := 4) rfl)) rfl (fun (hc104ξ : rnn103ξ = 0) => ?_) (fun (hc104ξ : ¬ (rnn103ξ = 0)) => ?_)
  · have hbf105ξ : ¬ (1 ≤ p2ξ ∧ p2ξ ≤ 600) := fun h9ξ => absurd ((Iff.mpr htn103ξ) h9ξ) (by omega)
    refine zp_load (pc := 32) hx hb (zd_X11_work (32, .aload_n 0, 1, 0, []) (List.mem_of_getElem? (i := 15) rfl)) rfl (j := 0) rfl ?_
    refine zp_const (pc := 33) hx hb (zd_X11_work (33, .iconst (-1), 1, 0, []) (List.mem_of_getElem? (i := 16) rfl)) rfl rfl ?_
    refine zp_call (pc := 34) (how := 0) (idx := 111) (mi := 16) (S := []) hx hb hEξ hwξ heffξ hrmξ (zX_rfs hWξ A Y F V) rfl (j := 11) rfl rfl (by decide +kernel) (zd_X11_work (34, .invokevirtual 111, 3, 0, []) (List.mem_of_getElem? (i := 17) rfl)) [(A 0 : Int), (-1)] rfl ⟨zp_o2 (zM_P hMξ (hYbξ _ (List.mem_of_getElem? (i := 0) rfl))), zp_o0 (by omega) (by omega) (by omega) (by omega), trivial⟩ (Nat.le_of_ble_eq_true rfl) ⟨⟨M, hMξ, hVξ, trivial⟩, rfl, hYF0ξ⟩ (fun al halξ rna107ξ Pa107 Ga107 hexta107ξ hfra107ξ hoka107ξ hcsa107ξ hpsia107ξ => ?_)
    obtain rfl := List.mem_singleton.mp halξ
    have hra107ξ := zp_int (hoka107ξ _ rfl).1
    obtain ⟨hPea107ξ, ⟨Ma107, hMa107ξ, hVa107ξ, hSba107ξ⟩, hta107ξ⟩ := hpsia107ξ
    subst hPea107ξ
    clear hexta107ξ hfra107ξ hcsa107ξ hoka107ξ
    have hVa107ξ : ∀ o k, zNc o → Ma107 o k = (zf_rfs V (-1)).2 o k := hVa107ξ
    have hta107ξ : rna107ξ = ((zf_rfs V (-1)).1) := hta107ξ
    have hta107ξ := (Eq.symm hta107ξ)
    subst hta107ξ
    refine zp_iret (pc := 37) (n := ((zf_rfs V (-1)).1)) hx hb hEξ hQξ hU5ξ rfl (by decide) (zd_X11_work (37, .ireturn, 1, 0, []) (List.mem_of_getElem? (i := 18) rfl)) (j := 0) rfl (zp_o0 (by omega) (by omega) (by omega) (by omega)) ?_
    rw [hpsξ]
    refine ⟨rfl, ?_⟩
    have hffξ : zf_wrkc V p1ξ p2ξ p3ξ p4ξ p5ξ = (((zf_rfs V (-1)).1), (zf_rfs V (-1)).2) := by
      unfold zf_wrkc
      rw [if_neg (fun h9ξ => absurd ((Iff.mpr htn103ξ) h9ξ) (by omega))]
    show zMVc A Y F (zf_wrkc V p1ξ p2ξ p3ξ p4ξ p5ξ).2 u.1 Ga107 ∧ ((zf_rfs V (-1)).1) = (zf_wrkc V p1ξ p2ξ p3ξ p4ξ p5ξ).1
    rw [hffξ]
    exact ⟨⟨Ma107, hMa107ξ, hVa107ξ, trivial⟩, rfl⟩
  · have hbt106ξ := (Iff.mp htn103ξ) (by omega)
    refine zp_load (pc := 11) hx hb (zd_X11_work (11, .iload_n 3, 1, 0, []) (List.mem_of_getElem? (i := 5) rfl)) rfl (j := 3) rfl ?_
    refine zp_const (pc := 12) hx hb (zd_X11_work (12, .iconst 0, 1, 0, []) (List.mem_of_getElem? (i := 6) rfl)) rfl rfl ?_
    refine zp_const (pc := 13) hx hb (zd_X11_work (13, .bipush 23, 2, 0, []) (List.mem_of_getElem? (i := 7) rfl)) rfl rfl ?_
    refine zp_call (pc := 15) (how := 1) (idx := 107) (mi := 15) (S := []) hx hb hEξ hwξ heffξ hrmξ (zX_iwn hWξ) rfl (j := 10) rfl rfl (by decide +kernel) (zd_X11_work (15, .invokestatic 107, 3, 0, []) (List.mem_of_getElem? (i := 8) rfl)) [p3ξ, 0, 23] rfl ⟨zp_o0 (by omega) (by omega) (by omega) (by omega), zp_o0 (by omega) (by omega) (by omega) (by omega), zp_o0 (by omega) (by omega) (by omega) (by omega), trivial⟩ (Nat.le_of_ble_eq_true rfl) trivial (fun al halξ rnn108ξ Pn108 Gn108 hextn108ξ hfrn108ξ hokn108ξ hcsn108ξ hpsin108ξ => ?_)
    obtain rfl := List.mem_singleton.mp halξ
    have hrn108ξ := zp_int (hokn108ξ _ rfl).1
    obtain ⟨hPen108ξ, hGen108ξ, htn108ξ⟩ := hpsin108ξ
    rw [hPen108ξ, hGen108ξ]
    clear hextn108ξ hfrn108ξ hcsn108ξ hPen108ξ hGen108ξ
    have htn108ξ : rnn108ξ = 1 ↔ 0 ≤ p3ξ ∧ p3ξ ≤ 23 := htn108ξ
    refine zp_if (pc := 18) (tgt := 32) hx hb (zd_X11_work (18, .ifCond .eq 14, 3, 0, []) (List.mem_of_getElem? (i := 9) rfl)) rfl (fun (hc109ξ : rnn108ξ = 0) => ?_) (fun (hc109ξ : ¬ (rnn108ξ = 0)) => ?_)
    · have hbf110ξ : ¬ (0 ≤ p3ξ ∧ p3ξ ≤ 23) := fun h9ξ => absurd ((Iff.mpr htn108ξ) h9ξ) (by omega)
      refine zp_load (pc := 32) hx hb (zd_X11_work (32, .aload_n 0, 1, 0, []) (List.mem_of_getElem? (i := 15) rfl)) rfl (j := 0) rfl ?_
      refine zp_const (pc := 33) hx hb (zd_X11_work (33, .iconst (-1), 1, 0, []) (List.mem_of_getElem? (i := 16) rfl)) rfl rfl ?_
      refine zp_call (pc := 34) (how := 0) (idx := 111) (mi := 16) (S := []) hx hb hEξ hwξ heffξ hrmξ (zX_rfs hWξ A Y F V) rfl (j := 11) rfl rfl (by decide +kernel) (zd_X11_work (34, .invokevirtual 111, 3, 0, []) (List.mem_of_getElem? (i := 17) rfl)) [(A 0 : Int), (-1)] rfl ⟨zp_o2 (zM_P hMξ (hYbξ _ (List.mem_of_getElem? (i := 0) rfl))), zp_o0 (by omega) (by omega) (by omega) (by omega), trivial⟩ (Nat.le_of_ble_eq_true rfl) ⟨⟨M, hMξ, hVξ, trivial⟩, rfl, hYF0ξ⟩ (fun al halξ rna112ξ Pa112 Ga112 hexta112ξ hfra112ξ hoka112ξ hcsa112ξ hpsia112ξ => ?_)
      obtain rfl := List.mem_singleton.mp halξ
      have hra112ξ := zp_int (hoka112ξ _ rfl).1
      obtain ⟨hPea112ξ, ⟨Ma112, hMa112ξ, hVa112ξ, hSba112ξ⟩, hta112ξ⟩ := hpsia112ξ
      subst hPea112ξ
      clear hexta112ξ hfra112ξ hcsa112ξ hoka112ξ
      have hVa112ξ : ∀ o k, zNc o → Ma112 o k = (zf_rfs V (-1)).2 o k := hVa112ξ
      have hta112ξ : rna112ξ = ((zf_rfs V (-1)).1) := hta112ξ
      have hta112ξ := (Eq.symm hta112ξ)
      subst hta112ξ
      refine zp_iret (pc := 37) (n := ((zf_rfs V (-1)).1)) hx hb hEξ hQξ hU5ξ rfl (by decide) (zd_X11_work (37, .ireturn, 1, 0, []) (List.mem_of_getElem? (i := 18) rfl)) (j := 0) rfl (zp_o0 (by omega) (by omega) (by omega) (by omega)) ?_
      rw [hpsξ]
      refine ⟨rfl, ?_⟩
      have hffξ : zf_wrkc V p1ξ p2ξ p3ξ p4ξ p5ξ = (((zf_rfs V (-1)).1), (zf_rfs V (-1)).2) := by
        unfold zf_wrkc
        rw [if_pos ((Iff.mp htn103ξ) (by omega)), if_neg (fun h9ξ => absurd ((Iff.mpr htn108ξ) h9ξ) (by omega))]
      show zMVc A Y F (zf_wrkc V p1ξ p2ξ p3ξ p4ξ p5ξ).2 u.1 Ga112 ∧ ((zf_rfs V (-1)).1) = (zf_wrkc V p1ξ p2ξ p3ξ p4ξ p5ξ).1
      rw [hffξ]
      exact ⟨⟨Ma112, hMa112ξ, hVa112ξ, trivial⟩, rfl⟩
    · have hbt111ξ := (Iff.mp htn108ξ) (by omega)
      refine zp_load (pc := 21) hx hb (zd_X11_work (21, .iload 4, 2, 0, []) (List.mem_of_getElem? (i := 10) rfl)) rfl (j := 4) rfl ?_
      refine zp_const (pc := 23) hx hb (zd_X11_work (23, .iconst 1, 1, 0, []) (List.mem_of_getElem? (i := 11) rfl)) rfl rfl ?_
      refine zp_const (pc := 24) hx hb (zd_X11_work (24, .bipush 99, 2, 0, []) (List.mem_of_getElem? (i := 12) rfl)) rfl rfl ?_
      refine zp_call (pc := 26) (how := 1) (idx := 107) (mi := 15) (S := []) hx hb hEξ hwξ heffξ hrmξ (zX_iwn hWξ) rfl (j := 10) rfl rfl (by decide +kernel) (zd_X11_work (26, .invokestatic 107, 3, 0, []) (List.mem_of_getElem? (i := 13) rfl)) [p4ξ, 1, 99] rfl ⟨zp_o0 (by omega) (by omega) (by omega) (by omega), zp_o0 (by omega) (by omega) (by omega) (by omega), zp_o0 (by omega) (by omega) (by omega) (by omega), trivial⟩ (Nat.le_of_ble_eq_true rfl) trivial (fun al halξ rnn113ξ Pn113 Gn113 hextn113ξ hfrn113ξ hokn113ξ hcsn113ξ hpsin113ξ => ?_)
      obtain rfl := List.mem_singleton.mp halξ
      have hrn113ξ := zp_int (hokn113ξ _ rfl).1
      obtain ⟨hPen113ξ, hGen113ξ, htn113ξ⟩ := hpsin113ξ
      rw [hPen113ξ, hGen113ξ]
      clear hextn113ξ hfrn113ξ hcsn113ξ hPen113ξ hGen113ξ
      have htn113ξ : rnn113ξ = 1 ↔ 1 ≤ p4ξ ∧ p4ξ ≤ 99 := htn113ξ
      refine zp_if (pc := 29) (tgt := 38) hx hb (zd_X11_work (29, .ifCond .ne 9, 3, 0, []) (List.mem_of_getElem? (i := 14) rfl)) rfl (fun (hc114ξ : ¬ rnn113ξ = 0) => ?_) (fun (hc114ξ : ¬ (¬ rnn113ξ = 0)) => ?_)
      · have hbt115ξ := (Iff.mp htn113ξ) (by omega)
        refine zp_load (pc := 38) hx hb (zd_X11_work (38, .aload_n 0, 1, 0, []) (List.mem_of_getElem? (i := 19) rfl)) rfl (j := 0) rfl ?_
        refine zp_getf (n := (A 1 : Int)) (pc := 39) hx hb hEξ hwξ (zd_X11_work (39, .getfield 10, 3, 0, []) (List.mem_of_getElem? (i := 20) rfl)) (j := 50) rfl rfl rfl (zM_P hMξ (hYbξ _ (List.mem_of_getElem? (i := 0) rfl))) ((zM_G hMξ (hYbξ _ (List.mem_of_getElem? (i := 0) rfl)) 0).trans (zM_F hMξ (hFbξ _ (List.mem_of_getElem? (i := 0) rfl)))) ?_
        refine zp_load (pc := 42) hx hb (zd_X11_work (42, .iload_n 1, 1, 0, []) (List.mem_of_getElem? (i := 21) rfl)) rfl (j := 1) rfl ?_
        refine zp_call (pc := 43) (how := 0) (idx := 131) (mi := 22) (S := []) hx hb hEξ hwξ heffξ hrmξ (zX_hpe1 hWξ A Y F M) rfl (j := 15) rfl rfl (by decide +kernel) (zd_X11_work (43, .invokevirtual 131, 3, 0, []) (List.mem_of_getElem? (i := 22) rfl)) [(A 1 : Int), p1ξ] rfl ⟨zp_o2 (zM_P hMξ (hYbξ _ (List.mem_of_getElem? (i := 1) rfl))), zp_o0 (by omega) (by omega) (by omega) (by omega), trivial⟩ (Nat.le_of_ble_eq_true rfl) ⟨hMξ, rfl, hYF0ξ⟩ (fun al halξ rni117ξ Pi117 Gi117 hexti117ξ hfri117ξ hoki117ξ hcsi117ξ hpsii117ξ => ?_)
        obtain rfl := List.mem_singleton.mp halξ
        have hri117ξ := zp_int (hoki117ξ _ rfl).1
        obtain ⟨hPei117ξ, hGei117ξ, hti117ξ⟩ := hpsii117ξ
        rw [hPei117ξ, hGei117ξ]
        clear hexti117ξ hfri117ξ hcsi117ξ hPei117ξ hGei117ξ
        have hti117ξ : rni117ξ = 1 ↔ 0 ≤ p1ξ ∧ p1ξ < (V 1 1) ∧ p1ξ < 6 := by
          have h9ξ : rni117ξ = 1 ↔ 0 ≤ p1ξ ∧ p1ξ < M 1 1 ∧ p1ξ < 6 := hti117ξ
          rw [(hVξ 1 1 (by decide))] at h9ξ
          exact h9ξ
        refine zp_if (pc := 46) (tgt := 67) hx hb (zd_X11_work (46, .ifCond .eq 21, 3, 0, []) (List.mem_of_getElem? (i := 23) rfl)) rfl (fun (hc118ξ : rni117ξ = 0) => ?_) (fun (hc118ξ : ¬ (rni117ξ = 0)) => ?_)
        · have hbf119ξ : ¬ (0 ≤ p1ξ ∧ p1ξ < (V 1 1) ∧ p1ξ < 6) := fun h9ξ => absurd ((Iff.mpr hti117ξ) h9ξ) (by omega)
          refine zp_load (pc := 67) hx hb (zd_X11_work (67, .aload_n 0, 1, 0, []) (List.mem_of_getElem? (i := 32) rfl)) rfl (j := 0) rfl ?_
          refine zp_const (pc := 68) hx hb (zd_X11_work (68, .bipush (-2), 2, 0, []) (List.mem_of_getElem? (i := 33) rfl)) rfl rfl ?_
          refine zp_call (pc := 70) (how := 0) (idx := 111) (mi := 16) (S := []) hx hb hEξ hwξ heffξ hrmξ (zX_rfs hWξ A Y F V) rfl (j := 11) rfl rfl (by decide +kernel) (zd_X11_work (70, .invokevirtual 111, 3, 0, []) (List.mem_of_getElem? (i := 34) rfl)) [(A 0 : Int), (-2)] rfl ⟨zp_o2 (zM_P hMξ (hYbξ _ (List.mem_of_getElem? (i := 0) rfl))), zp_o0 (by omega) (by omega) (by omega) (by omega), trivial⟩ (Nat.le_of_ble_eq_true rfl) ⟨⟨M, hMξ, hVξ, trivial⟩, rfl, hYF0ξ⟩ (fun al halξ rna121ξ Pa121 Ga121 hexta121ξ hfra121ξ hoka121ξ hcsa121ξ hpsia121ξ => ?_)
          obtain rfl := List.mem_singleton.mp halξ
          have hra121ξ := zp_int (hoka121ξ _ rfl).1
          obtain ⟨hPea121ξ, ⟨Ma121, hMa121ξ, hVa121ξ, hSba121ξ⟩, hta121ξ⟩ := hpsia121ξ
          subst hPea121ξ
          clear hexta121ξ hfra121ξ hcsa121ξ hoka121ξ
          have hVa121ξ : ∀ o k, zNc o → Ma121 o k = (zf_rfs V (-2)).2 o k := hVa121ξ
          have hta121ξ : rna121ξ = ((zf_rfs V (-2)).1) := hta121ξ
          have hta121ξ := (Eq.symm hta121ξ)
          subst hta121ξ
          refine zp_iret (pc := 73) (n := ((zf_rfs V (-2)).1)) hx hb hEξ hQξ hU5ξ rfl (by decide) (zd_X11_work (73, .ireturn, 1, 0, []) (List.mem_of_getElem? (i := 35) rfl)) (j := 0) rfl (zp_o0 (by omega) (by omega) (by omega) (by omega)) ?_
          rw [hpsξ]
          refine ⟨rfl, ?_⟩
          have hffξ : zf_wrkc V p1ξ p2ξ p3ξ p4ξ p5ξ = (((zf_rfs V (-2)).1), (zf_rfs V (-2)).2) := by
            unfold zf_wrkc
            rw [if_pos ((Iff.mp htn103ξ) (by omega)), if_pos ((Iff.mp htn108ξ) (by omega)), if_pos ((Iff.mp htn113ξ) (by omega)), if_neg (fun h9ξ => absurd ((Iff.mpr hti117ξ) h9ξ) (by omega))]
          show zMVc A Y F (zf_wrkc V p1ξ p2ξ p3ξ p4ξ p5ξ).2 u.1 Ga121 ∧ ((zf_rfs V (-2)).1) = (zf_wrkc V p1ξ p2ξ p3ξ p4ξ p5ξ).1
          rw [hffξ]
          exact ⟨⟨Ma121, hMa121ξ, hVa121ξ, trivial⟩, rfl⟩
        · have hbt120ξ := (Iff.mp hti117ξ) (by omega)
          refine zp_load (pc := 49) hx hb (zd_X11_work (49, .iload 5, 2, 0, []) (List.mem_of_getElem? (i := 24) rfl)) rfl (j := 5) rfl ?_
          refine zp_const (pc := 51) hx hb (zd_X11_work (51, .iconst (-1), 1, 0, []) (List.mem_of_getElem? (i := 25) rfl)) rfl rfl ?_
          refine zp_icmp (pc := 52) (tgt := 74) hx hb (zd_X11_work (52, .if_icmp .eq 22, 3, 0, []) (List.mem_of_getElem? (i := 26) rfl)) rfl (fun (hc122ξ : p5ξ = (-1)) => ?_) (fun (hc122ξ : ¬ (p5ξ = (-1))) => ?_)
          · refine zp_load (pc := 74) hx hb (zd_X11_work (74, .aload_n 0, 1, 0, []) (List.mem_of_getElem? (i := 36) rfl)) rfl (j := 0) rfl ?_
            refine zp_getf (n := (A 1 : Int)) (pc := 75) hx hb hEξ hwξ (zd_X11_work (75, .getfield 10, 3, 0, []) (List.mem_of_getElem? (i := 37) rfl)) (j := 50) rfl rfl rfl (zM_P hMξ (hYbξ _ (List.mem_of_getElem? (i := 0) rfl))) ((zM_G hMξ (hYbξ _ (List.mem_of_getElem? (i := 0) rfl)) 0).trans (zM_F hMξ (hFbξ _ (List.mem_of_getElem? (i := 0) rfl)))) ?_
            refine zp_getf (n := (V 1 3)) (pc := 78) hx hb hEξ hwξ (zd_X11_work (78, .getfield 153, 3, 0, []) (List.mem_of_getElem? (i := 38) rfl)) (j := 12) rfl rfl rfl (zM_P hMξ (hYbξ _ (List.mem_of_getElem? (i := 1) rfl))) ((zM_G hMξ (hYbξ _ (List.mem_of_getElem? (i := 1) rfl)) 3).trans (hVξ 1 3 (by decide))) ?_
            refine zp_kn (k := 3) (a := (A 1)) hwξ (show zp_fd 10 3 = some (9, 0, 0, 0, 10) from rfl) rfl (zM_P hMξ (hYbξ _ (List.mem_of_getElem? (i := 1) rfl))) (fun hf123ξ => ?_)
            have hf123bξ := zp_int hf123ξ
            rw [((zM_G hMξ (hYbξ _ (List.mem_of_getElem? (i := 1) rfl)) 3).trans (hVξ 1 3 (by decide)))] at hf123bξ
            clear hf123ξ
            refine zp_const (pc := 81) hx hb (zd_X11_work (81, .bipush 10, 2, 0, []) (List.mem_of_getElem? (i := 39) rfl)) rfl rfl ?_
            refine zp_icmp (pc := 83) (tgt := 93) hx hb (zd_X11_work (83, .if_icmp .lt 10, 3, 0, []) (List.mem_of_getElem? (i := 40) rfl)) rfl (fun (hc124ξ : (V 1 3) < 10) => ?_) (fun (hc124ξ : ¬ ((V 1 3) < 10)) => ?_)
            · refine zp_load (pc := 93) hx hb (zd_X11_work (93, .aload_n 0, 1, 0, []) (List.mem_of_getElem? (i := 45) rfl)) rfl (j := 0) rfl ?_
              refine zp_getf (n := (A 3 : Int)) (pc := 94) hx hb hEξ hwξ (zd_X11_work (94, .getfield 23, 3, 0, []) (List.mem_of_getElem? (i := 46) rfl)) (j := 52) rfl rfl rfl (zM_P hMξ (hYbξ _ (List.mem_of_getElem? (i := 0) rfl))) ((zM_G hMξ (hYbξ _ (List.mem_of_getElem? (i := 0) rfl)) 2).trans (zM_F hMξ (hFbξ _ (List.mem_of_getElem? (i := 2) rfl)))) ?_
              refine zp_call (pc := 97) (how := 0) (idx := 124) (mi := 19) (S := []) hx hb hEξ hwξ heffξ hrmξ (zX_clr3 hWξ A Y F V) rfl (j := 13) rfl rfl (by decide +kernel) (zd_X11_work (97, .invokevirtual 124, 3, 0, []) (List.mem_of_getElem? (i := 47) rfl)) [(A 3 : Int)] rfl ⟨zp_o2 (zM_P hMξ (hYbξ _ (List.mem_of_getElem? (i := 3) rfl))), trivial⟩ (Nat.le_of_ble_eq_true rfl) ⟨⟨M, hMξ, hVξ, trivial⟩, rfl, hYF0ξ⟩ (fun al halξ rna125ξ Pa125 Ga125 hexta125ξ hfra125ξ hoka125ξ hcsa125ξ hpsia125ξ => ?_)
              obtain rfl := List.mem_singleton.mp halξ
              obtain ⟨hPea125ξ, Ma125, hMa125ξ, hVa125ξ, hSba125ξ⟩ := hpsia125ξ
              subst hPea125ξ
              clear hexta125ξ hfra125ξ hcsa125ξ hoka125ξ
              have hVa125ξ : ∀ o k, zNc o → Ma125 o k = (zf_clr3 V).2 o k := hVa125ξ
              refine zp_load (pc := 100) hx hb (zd_X11_work (100, .aload_n 0, 1, 0, []) (List.mem_of_getElem? (i := 48) rfl)) rfl (j := 0) rfl ?_
              refine zp_load (pc := 101) hx hb (zd_X11_work (101, .aload_n 0, 1, 0, []) (List.mem_of_getElem? (i := 49) rfl)) rfl (j := 0) rfl ?_
              refine zp_getf (n := (A 1 : Int)) (pc := 102) hx hb hEξ hwξ (zd_X11_work (102, .getfield 10, 3, 0, []) (List.mem_of_getElem? (i := 50) rfl)) (j := 50) rfl rfl rfl (zM_P hMa125ξ (hYbξ _ (List.mem_of_getElem? (i := 0) rfl))) ((zM_G hMa125ξ (hYbξ _ (List.mem_of_getElem? (i := 0) rfl)) 0).trans (zM_F hMa125ξ (hFbξ _ (List.mem_of_getElem? (i := 0) rfl)))) ?_
              refine zp_load (pc := 105) hx hb (zd_X11_work (105, .iload_n 1, 1, 0, []) (List.mem_of_getElem? (i := 51) rfl)) rfl (j := 1) rfl ?_
              refine zp_load (pc := 106) hx hb (zd_X11_work (106, .iload_n 2, 1, 0, []) (List.mem_of_getElem? (i := 52) rfl)) rfl (j := 2) rfl ?_
              refine zp_load (pc := 107) hx hb (zd_X11_work (107, .iload_n 3, 1, 0, []) (List.mem_of_getElem? (i := 53) rfl)) rfl (j := 3) rfl ?_
              refine zp_load (pc := 108) hx hb (zd_X11_work (108, .iload 4, 2, 0, []) (List.mem_of_getElem? (i := 54) rfl)) rfl (j := 4) rfl ?_
              refine zp_load (pc := 110) hx hb (zd_X11_work (110, .iload 5, 2, 0, []) (List.mem_of_getElem? (i := 55) rfl)) rfl (j := 5) rfl ?_
              refine zp_call (pc := 112) (how := 0) (idx := 156) (mi := 28) (S := [(2, (A 0 : Int))]) hx hb hEξ hwξ heffξ hrmξ (zX_adw1 hWξ A Y F (zf_clr3 V).2) rfl (j := 18) rfl rfl (by decide +kernel) (zd_X11_work (112, .invokevirtual 156, 3, 0, []) (List.mem_of_getElem? (i := 56) rfl)) [(A 1 : Int), p1ξ, p2ξ, p3ξ, p4ξ, p5ξ] rfl ⟨zp_o2 (zM_P hMa125ξ (hYbξ _ (List.mem_of_getElem? (i := 1) rfl))), zp_o0 (by omega) (by omega) (by omega) (by omega), zp_o0 (by omega) (by omega) (by omega) (by omega), zp_o0 (by omega) (by omega) (by omega) (by omega), zp_o0 (by omega) (by omega) (by omega) (by omega), zp_o0 (by omega) (by omega) (by omega) (by omega), trivial⟩ (Nat.le_of_ble_eq_true rfl) ⟨⟨Ma125, hMa125ξ, hVa125ξ, trivial⟩, rfl, hYF0ξ⟩ (fun al halξ rna126ξ Pa126 Ga126 hexta126ξ hfra126ξ hoka126ξ hcsa126ξ hpsia126ξ => ?_)
              obtain rfl := List.mem_singleton.mp halξ
              have hra126ξ := zp_int (hoka126ξ _ rfl).1
              obtain ⟨hPea126ξ, ⟨Ma126, hMa126ξ, hVa126ξ, hSba126ξ⟩, hta126ξ⟩ := hpsia126ξ
              subst hPea126ξ
              clear hexta126ξ hfra126ξ hcsa126ξ hoka126ξ
              have hVa126ξ : ∀ o k, zNc o → Ma126 o k = (zf_adw1 (zf_clr3 V).2 p1ξ p2ξ p3ξ p4ξ p5ξ).2 o k := hVa126ξ
              have hta126ξ : rna126ξ = ((zf_adw1 (zf_clr3 V).2 p1ξ p2ξ p3ξ p4ξ p5ξ).1) := hta126ξ
              have hta126ξ := (Eq.symm hta126ξ)
              subst hta126ξ
              refine zp_call (pc := 115) (how := 0) (idx := 118) (mi := 17) (S := []) hx hb hEξ hwξ heffξ hrmξ (zX_ans hWξ A Y F (zf_adw1 (zf_clr3 V).2 p1ξ p2ξ p3ξ p4ξ p5ξ).2) rfl (j := 12) rfl rfl (by decide +kernel) (zd_X11_work (115, .invokevirtual 118, 3, 0, []) (List.mem_of_getElem? (i := 57) rfl)) [(A 0 : Int), ((zf_adw1 (zf_clr3 V).2 p1ξ p2ξ p3ξ p4ξ p5ξ).1)] rfl ⟨zp_o2 (zM_P hMa126ξ (hYbξ _ (List.mem_of_getElem? (i := 0) rfl))), zp_o0 (by omega) (by omega) (by omega) (by omega), trivial⟩ (Nat.le_of_ble_eq_true rfl) ⟨⟨Ma126, hMa126ξ, hVa126ξ, trivial⟩, rfl, hYF0ξ⟩ (fun al halξ rna127ξ Pa127 Ga127 hexta127ξ hfra127ξ hoka127ξ hcsa127ξ hpsia127ξ => ?_)
              obtain rfl := List.mem_singleton.mp halξ
              have hra127ξ := zp_int (hoka127ξ _ rfl).1
              obtain ⟨hPea127ξ, ⟨Ma127, hMa127ξ, hVa127ξ, hSba127ξ⟩, hta127ξ⟩ := hpsia127ξ
              subst hPea127ξ
              clear hexta127ξ hfra127ξ hcsa127ξ hoka127ξ
              have hVa127ξ : ∀ o k, zNc o → Ma127 o k = (zf_ans (zf_adw1 (zf_clr3 V).2 p1ξ p2ξ p3ξ p4ξ p5ξ).2 ((zf_adw1 (zf_clr3 V).2 p1ξ p2ξ p3ξ p4ξ p5ξ).1)).2 o k := hVa127ξ
              have hta127ξ : rna127ξ = ((zf_ans (zf_adw1 (zf_clr3 V).2 p1ξ p2ξ p3ξ p4ξ p5ξ).2 ((zf_adw1 (zf_clr3 V).2 p1ξ p2ξ p3ξ p4ξ p5ξ).1)).1) := hta127ξ
              have hta127ξ := (Eq.symm hta127ξ)
              subst hta127ξ
              refine zp_iret (pc := 118) (n := ((zf_ans (zf_adw1 (zf_clr3 V).2 p1ξ p2ξ p3ξ p4ξ p5ξ).2 ((zf_adw1 (zf_clr3 V).2 p1ξ p2ξ p3ξ p4ξ p5ξ).1)).1)) hx hb hEξ hQξ hU5ξ rfl (by decide) (zd_X11_work (118, .ireturn, 1, 0, []) (List.mem_of_getElem? (i := 58) rfl)) (j := 0) rfl (zp_o0 (by omega) (by omega) (by omega) (by omega)) ?_
              rw [hpsξ]
              refine ⟨rfl, ?_⟩
              have hffξ : zf_wrkc V p1ξ p2ξ p3ξ p4ξ p5ξ = (((zf_ans (zf_adw1 (zf_clr3 V).2 p1ξ p2ξ p3ξ p4ξ p5ξ).2 ((zf_adw1 (zf_clr3 V).2 p1ξ p2ξ p3ξ p4ξ p5ξ).1)).1), (zf_ans (zf_adw1 (zf_clr3 V).2 p1ξ p2ξ p3ξ p4ξ p5ξ).2 ((zf_adw1 (zf_clr3 V).2 p1ξ p2ξ p3ξ p4ξ p5ξ).1)).2) := by
                unfold zf_wrkc
                rw [if_pos ((Iff.mp htn103ξ) (by omega)), if_pos ((Iff.mp htn108ξ) (by omega)), if_pos ((Iff.mp htn113ξ) (by omega)), if_pos ((Iff.mp hti117ξ) (by omega)), if_pos hc122ξ, if_pos hc124ξ]
              show zMVc A Y F (zf_wrkc V p1ξ p2ξ p3ξ p4ξ p5ξ).2 u.1 Ga127 ∧ ((zf_ans (zf_adw1 (zf_clr3 V).2 p1ξ p2ξ p3ξ p4ξ p5ξ).2 ((zf_adw1 (zf_clr3 V).2 p1ξ p2ξ p3ξ p4ξ p5ξ).1)).1) = (zf_wrkc V p1ξ p2ξ p3ξ p4ξ p5ξ).1
              rw [hffξ]
              exact ⟨⟨Ma127, hMa127ξ, hVa127ξ, trivial⟩, rfl⟩
            · refine zp_load (pc := 86) hx hb (zd_X11_work (86, .aload_n 0, 1, 0, []) (List.mem_of_getElem? (i := 41) rfl)) rfl (j := 0) rfl ?_
              refine zp_const (pc := 87) hx hb (zd_X11_work (87, .bipush (-5), 2, 0, []) (List.mem_of_getElem? (i := 42) rfl)) rfl rfl ?_
              refine zp_call (pc := 89) (how := 0) (idx := 111) (mi := 16) (S := []) hx hb hEξ hwξ heffξ hrmξ (zX_rfs hWξ A Y F V) rfl (j := 11) rfl rfl (by decide +kernel) (zd_X11_work (89, .invokevirtual 111, 3, 0, []) (List.mem_of_getElem? (i := 43) rfl)) [(A 0 : Int), (-5)] rfl ⟨zp_o2 (zM_P hMξ (hYbξ _ (List.mem_of_getElem? (i := 0) rfl))), zp_o0 (by omega) (by omega) (by omega) (by omega), trivial⟩ (Nat.le_of_ble_eq_true rfl) ⟨⟨M, hMξ, hVξ, trivial⟩, rfl, hYF0ξ⟩ (fun al halξ rna128ξ Pa128 Ga128 hexta128ξ hfra128ξ hoka128ξ hcsa128ξ hpsia128ξ => ?_)
              obtain rfl := List.mem_singleton.mp halξ
              have hra128ξ := zp_int (hoka128ξ _ rfl).1
              obtain ⟨hPea128ξ, ⟨Ma128, hMa128ξ, hVa128ξ, hSba128ξ⟩, hta128ξ⟩ := hpsia128ξ
              subst hPea128ξ
              clear hexta128ξ hfra128ξ hcsa128ξ hoka128ξ
              have hVa128ξ : ∀ o k, zNc o → Ma128 o k = (zf_rfs V (-5)).2 o k := hVa128ξ
              have hta128ξ : rna128ξ = ((zf_rfs V (-5)).1) := hta128ξ
              have hta128ξ := (Eq.symm hta128ξ)
              subst hta128ξ
              refine zp_iret (pc := 92) (n := ((zf_rfs V (-5)).1)) hx hb hEξ hQξ hU5ξ rfl (by decide) (zd_X11_work (92, .ireturn, 1, 0, []) (List.mem_of_getElem? (i := 44) rfl)) (j := 0) rfl (zp_o0 (by omega) (by omega) (by omega) (by omega)) ?_
              rw [hpsξ]
              refine ⟨rfl, ?_⟩
              have hffξ : zf_wrkc V p1ξ p2ξ p3ξ p4ξ p5ξ = (((zf_rfs V (-5)).1), (zf_rfs V (-5)).2) := by
                unfold zf_wrkc
                rw [if_pos ((Iff.mp htn103ξ) (by omega)), if_pos ((Iff.mp htn108ξ) (by omega)), if_pos ((Iff.mp htn113ξ) (by omega)), if_pos ((Iff.mp hti117ξ) (by omega)), if_pos hc122ξ, if_neg hc124ξ]
              show zMVc A Y F (zf_wrkc V p1ξ p2ξ p3ξ p4ξ p5ξ).2 u.1 Ga128 ∧ ((zf_rfs V (-5)).1) = (zf_wrkc V p1ξ p2ξ p3ξ p4ξ p5ξ).1
              rw [hffξ]
              exact ⟨⟨Ma128, hMa128ξ, hVa128ξ, trivial⟩, rfl⟩
          · refine zp_load (pc := 55) hx hb (zd_X11_work (55, .aload_n 0, 1, 0, []) (List.mem_of_getElem? (i := 27) rfl)) rfl (j := 0) rfl ?_
            refine zp_getf (n := (A 1 : Int)) (pc := 56) hx hb hEξ hwξ (zd_X11_work (56, .getfield 10, 3, 0, []) (List.mem_of_getElem? (i := 28) rfl)) (j := 50) rfl rfl rfl (zM_P hMξ (hYbξ _ (List.mem_of_getElem? (i := 0) rfl))) ((zM_G hMξ (hYbξ _ (List.mem_of_getElem? (i := 0) rfl)) 0).trans (zM_F hMξ (hFbξ _ (List.mem_of_getElem? (i := 0) rfl)))) ?_
            refine zp_load (pc := 59) hx hb (zd_X11_work (59, .iload 5, 2, 0, []) (List.mem_of_getElem? (i := 29) rfl)) rfl (j := 5) rfl ?_
            refine zp_call (pc := 61) (how := 0) (idx := 150) (mi := 26) (S := []) hx hb hEξ hwξ heffξ hrmξ (zX_hwo1 hWξ A Y F M) rfl (j := 17) rfl rfl (by decide +kernel) (zd_X11_work (61, .invokevirtual 150, 3, 0, []) (List.mem_of_getElem? (i := 30) rfl)) [(A 1 : Int), p5ξ] rfl ⟨zp_o2 (zM_P hMξ (hYbξ _ (List.mem_of_getElem? (i := 1) rfl))), zp_o0 (by omega) (by omega) (by omega) (by omega), trivial⟩ (Nat.le_of_ble_eq_true rfl) ⟨hMξ, rfl, hYF0ξ⟩ (fun al halξ rni129ξ Pi129 Gi129 hexti129ξ hfri129ξ hoki129ξ hcsi129ξ hpsii129ξ => ?_)
            obtain rfl := List.mem_singleton.mp halξ
            have hri129ξ := zp_int (hoki129ξ _ rfl).1
            obtain ⟨hPei129ξ, hGei129ξ, hti129ξ⟩ := hpsii129ξ
            rw [hPei129ξ, hGei129ξ]
            clear hexti129ξ hfri129ξ hcsi129ξ hPei129ξ hGei129ξ
            have hti129ξ : rni129ξ = 1 ↔ 0 ≤ p5ξ ∧ p5ξ < (V 1 3) ∧ p5ξ < 10 := by
              have h9ξ : rni129ξ = 1 ↔ 0 ≤ p5ξ ∧ p5ξ < M 1 3 ∧ p5ξ < 10 := hti129ξ
              rw [(hVξ 1 3 (by decide))] at h9ξ
              exact h9ξ
            refine zp_if (pc := 64) (tgt := 74) hx hb (zd_X11_work (64, .ifCond .ne 10, 3, 0, []) (List.mem_of_getElem? (i := 31) rfl)) rfl (fun (hc130ξ : ¬ rni129ξ = 0) => ?_) (fun (hc130ξ : ¬ (¬ rni129ξ = 0)) => ?_)
            · have hbt131ξ := (Iff.mp hti129ξ) (by omega)
              refine zp_load (pc := 74) hx hb (zd_X11_work (74, .aload_n 0, 1, 0, []) (List.mem_of_getElem? (i := 36) rfl)) rfl (j := 0) rfl ?_
              refine zp_getf (n := (A 1 : Int)) (pc := 75) hx hb hEξ hwξ (zd_X11_work (75, .getfield 10, 3, 0, []) (List.mem_of_getElem? (i := 37) rfl)) (j := 50) rfl rfl rfl (zM_P hMξ (hYbξ _ (List.mem_of_getElem? (i := 0) rfl))) ((zM_G hMξ (hYbξ _ (List.mem_of_getElem? (i := 0) rfl)) 0).trans (zM_F hMξ (hFbξ _ (List.mem_of_getElem? (i := 0) rfl)))) ?_
              refine zp_getf (n := (V 1 3)) (pc := 78) hx hb hEξ hwξ (zd_X11_work (78, .getfield 153, 3, 0, []) (List.mem_of_getElem? (i := 38) rfl)) (j := 12) rfl rfl rfl (zM_P hMξ (hYbξ _ (List.mem_of_getElem? (i := 1) rfl))) ((zM_G hMξ (hYbξ _ (List.mem_of_getElem? (i := 1) rfl)) 3).trans (hVξ 1 3 (by decide))) ?_
              refine zp_kn (k := 3) (a := (A 1)) hwξ (show zp_fd 10 3 = some (9, 0, 0, 0, 10) from rfl) rfl (zM_P hMξ (hYbξ _ (List.mem_of_getElem? (i := 1) rfl))) (fun hf133ξ => ?_)
              have hf133bξ := zp_int hf133ξ
              rw [((zM_G hMξ (hYbξ _ (List.mem_of_getElem? (i := 1) rfl)) 3).trans (hVξ 1 3 (by decide)))] at hf133bξ
              clear hf133ξ
              refine zp_const (pc := 81) hx hb (zd_X11_work (81, .bipush 10, 2, 0, []) (List.mem_of_getElem? (i := 39) rfl)) rfl rfl ?_
              refine zp_icmp (pc := 83) (tgt := 93) hx hb (zd_X11_work (83, .if_icmp .lt 10, 3, 0, []) (List.mem_of_getElem? (i := 40) rfl)) rfl (fun (hc134ξ : (V 1 3) < 10) => ?_) (fun (hc134ξ : ¬ ((V 1 3) < 10)) => ?_)
              · refine zp_load (pc := 93) hx hb (zd_X11_work (93, .aload_n 0, 1, 0, []) (List.mem_of_getElem? (i := 45) rfl)) rfl (j := 0) rfl ?_
                refine zp_getf (n := (A 3 : Int)) (pc := 94) hx hb hEξ hwξ (zd_X11_work (94, .getfield 23, 3, 0, []) (List.mem_of_getElem? (i := 46) rfl)) (j := 52) rfl rfl rfl (zM_P hMξ (hYbξ _ (List.mem_of_getElem? (i := 0) rfl))) ((zM_G hMξ (hYbξ _ (List.mem_of_getElem? (i := 0) rfl)) 2).trans (zM_F hMξ (hFbξ _ (List.mem_of_getElem? (i := 2) rfl)))) ?_
                refine zp_call (pc := 97) (how := 0) (idx := 124) (mi := 19) (S := []) hx hb hEξ hwξ heffξ hrmξ (zX_clr3 hWξ A Y F V) rfl (j := 13) rfl rfl (by decide +kernel) (zd_X11_work (97, .invokevirtual 124, 3, 0, []) (List.mem_of_getElem? (i := 47) rfl)) [(A 3 : Int)] rfl ⟨zp_o2 (zM_P hMξ (hYbξ _ (List.mem_of_getElem? (i := 3) rfl))), trivial⟩ (Nat.le_of_ble_eq_true rfl) ⟨⟨M, hMξ, hVξ, trivial⟩, rfl, hYF0ξ⟩ (fun al halξ rna135ξ Pa135 Ga135 hexta135ξ hfra135ξ hoka135ξ hcsa135ξ hpsia135ξ => ?_)
                obtain rfl := List.mem_singleton.mp halξ
                obtain ⟨hPea135ξ, Ma135, hMa135ξ, hVa135ξ, hSba135ξ⟩ := hpsia135ξ
                subst hPea135ξ
                clear hexta135ξ hfra135ξ hcsa135ξ hoka135ξ
                have hVa135ξ : ∀ o k, zNc o → Ma135 o k = (zf_clr3 V).2 o k := hVa135ξ
                refine zp_load (pc := 100) hx hb (zd_X11_work (100, .aload_n 0, 1, 0, []) (List.mem_of_getElem? (i := 48) rfl)) rfl (j := 0) rfl ?_
                refine zp_load (pc := 101) hx hb (zd_X11_work (101, .aload_n 0, 1, 0, []) (List.mem_of_getElem? (i := 49) rfl)) rfl (j := 0) rfl ?_
                refine zp_getf (n := (A 1 : Int)) (pc := 102) hx hb hEξ hwξ (zd_X11_work (102, .getfield 10, 3, 0, []) (List.mem_of_getElem? (i := 50) rfl)) (j := 50) rfl rfl rfl (zM_P hMa135ξ (hYbξ _ (List.mem_of_getElem? (i := 0) rfl))) ((zM_G hMa135ξ (hYbξ _ (List.mem_of_getElem? (i := 0) rfl)) 0).trans (zM_F hMa135ξ (hFbξ _ (List.mem_of_getElem? (i := 0) rfl)))) ?_
                refine zp_load (pc := 105) hx hb (zd_X11_work (105, .iload_n 1, 1, 0, []) (List.mem_of_getElem? (i := 51) rfl)) rfl (j := 1) rfl ?_
                refine zp_load (pc := 106) hx hb (zd_X11_work (106, .iload_n 2, 1, 0, []) (List.mem_of_getElem? (i := 52) rfl)) rfl (j := 2) rfl ?_
                refine zp_load (pc := 107) hx hb (zd_X11_work (107, .iload_n 3, 1, 0, []) (List.mem_of_getElem? (i := 53) rfl)) rfl (j := 3) rfl ?_
                refine zp_load (pc := 108) hx hb (zd_X11_work (108, .iload 4, 2, 0, []) (List.mem_of_getElem? (i := 54) rfl)) rfl (j := 4) rfl ?_
                refine zp_load (pc := 110) hx hb (zd_X11_work (110, .iload 5, 2, 0, []) (List.mem_of_getElem? (i := 55) rfl)) rfl (j := 5) rfl ?_
                refine zp_call (pc := 112) (how := 0) (idx := 156) (mi := 28) (S := [(2, (A 0 : Int))]) hx hb hEξ hwξ heffξ hrmξ (zX_adw1 hWξ A Y F (zf_clr3 V).2) rfl (j := 18) rfl rfl (by decide +kernel) (zd_X11_work (112, .invokevirtual 156, 3, 0, []) (List.mem_of_getElem? (i := 56) rfl)) [(A 1 : Int), p1ξ, p2ξ, p3ξ, p4ξ, p5ξ] rfl ⟨zp_o2 (zM_P hMa135ξ (hYbξ _ (List.mem_of_getElem? (i := 1) rfl))), zp_o0 (by omega) (by omega) (by omega) (by omega), zp_o0 (by omega) (by omega) (by omega) (by omega), zp_o0 (by omega) (by omega) (by omega) (by omega), zp_o0 (by omega) (by omega) (by omega) (by omega), zp_o0 (by omega) (by omega) (by omega) (by omega), trivial⟩ (Nat.le_of_ble_eq_true rfl) ⟨⟨Ma135, hMa135ξ, hVa135ξ, trivial⟩, rfl, hYF0ξ⟩ (fun al halξ rna136ξ Pa136 Ga136 hexta136ξ hfra136ξ hoka136ξ hcsa136ξ hpsia136ξ => ?_)
                obtain rfl := List.mem_singleton.mp halξ
                have hra136ξ := zp_int (hoka136ξ _ rfl).1
                obtain ⟨hPea136ξ, ⟨Ma136, hMa136ξ, hVa136ξ, hSba136ξ⟩, hta136ξ⟩ := hpsia136ξ
                subst hPea136ξ
                clear hexta136ξ hfra136ξ hcsa136ξ hoka136ξ
                have hVa136ξ : ∀ o k, zNc o → Ma136 o k = (zf_adw1 (zf_clr3 V).2 p1ξ p2ξ p3ξ p4ξ p5ξ).2 o k := hVa136ξ
                have hta136ξ : rna136ξ = ((zf_adw1 (zf_clr3 V).2 p1ξ p2ξ p3ξ p4ξ p5ξ).1) := hta136ξ
                have hta136ξ := (Eq.symm hta136ξ)
                subst hta136ξ
                refine zp_call (pc := 115) (how := 0) (idx := 118) (mi := 17) (S := []) hx hb hEξ hwξ heffξ hrmξ (zX_ans hWξ A Y F (zf_adw1 (zf_clr3 V).2 p1ξ p2ξ p3ξ p4ξ p5ξ).2) rfl (j := 12) rfl rfl (by decide +kernel) (zd_X11_work (115, .invokevirtual 118, 3, 0, []) (List.mem_of_getElem? (i := 57) rfl)) [(A 0 : Int), ((zf_adw1 (zf_clr3 V).2 p1ξ p2ξ p3ξ p4ξ p5ξ).1)] rfl ⟨zp_o2 (zM_P hMa136ξ (hYbξ _ (List.mem_of_getElem? (i := 0) rfl))), zp_o0 (by omega) (by omega) (by omega) (by omega), trivial⟩ (Nat.le_of_ble_eq_true rfl) ⟨⟨Ma136, hMa136ξ, hVa136ξ, trivial⟩, rfl, hYF0ξ⟩ (fun al halξ rna137ξ Pa137 Ga137 hexta137ξ hfra137ξ hoka137ξ hcsa137ξ hpsia137ξ => ?_)
                obtain rfl := List.mem_singleton.mp halξ
                have hra137ξ := zp_int (hoka137ξ _ rfl).1
                obtain ⟨hPea137ξ, ⟨Ma137, hMa137ξ, hVa137ξ, hSba137ξ⟩, hta137ξ⟩ := hpsia137ξ
                subst hPea137ξ
                clear hexta137ξ hfra137ξ hcsa137ξ hoka137ξ
                have hVa137ξ : ∀ o k, zNc o → Ma137 o k = (zf_ans (zf_adw1 (zf_clr3 V).2 p1ξ p2ξ p3ξ p4ξ p5ξ).2 ((zf_adw1 (zf_clr3 V).2 p1ξ p2ξ p3ξ p4ξ p5ξ).1)).2 o k := hVa137ξ
                have hta137ξ : rna137ξ = ((zf_ans (zf_adw1 (zf_clr3 V).2 p1ξ p2ξ p3ξ p4ξ p5ξ).2 ((zf_adw1 (zf_clr3 V).2 p1ξ p2ξ p3ξ p4ξ p5ξ).1)).1) := hta137ξ
                have hta137ξ := (Eq.symm hta137ξ)
                subst hta137ξ
                refine zp_iret (pc := 118) (n := ((zf_ans (zf_adw1 (zf_clr3 V).2 p1ξ p2ξ p3ξ p4ξ p5ξ).2 ((zf_adw1 (zf_clr3 V).2 p1ξ p2ξ p3ξ p4ξ p5ξ).1)).1)) hx hb hEξ hQξ hU5ξ rfl (by decide) (zd_X11_work (118, .ireturn, 1, 0, []) (List.mem_of_getElem? (i := 58) rfl)) (j := 0) rfl (zp_o0 (by omega) (by omega) (by omega) (by omega)) ?_
                rw [hpsξ]
                refine ⟨rfl, ?_⟩
                have hffξ : zf_wrkc V p1ξ p2ξ p3ξ p4ξ p5ξ = (((zf_ans (zf_adw1 (zf_clr3 V).2 p1ξ p2ξ p3ξ p4ξ p5ξ).2 ((zf_adw1 (zf_clr3 V).2 p1ξ p2ξ p3ξ p4ξ p5ξ).1)).1), (zf_ans (zf_adw1 (zf_clr3 V).2 p1ξ p2ξ p3ξ p4ξ p5ξ).2 ((zf_adw1 (zf_clr3 V).2 p1ξ p2ξ p3ξ p4ξ p5ξ).1)).2) := by
                  unfold zf_wrkc
                  rw [if_pos ((Iff.mp htn103ξ) (by omega)), if_pos ((Iff.mp htn108ξ) (by omega)), if_pos ((Iff.mp htn113ξ) (by omega)), if_pos ((Iff.mp hti117ξ) (by omega)), if_neg hc122ξ, if_pos ((Iff.mp hti129ξ) (by omega)), if_pos hc134ξ]
                show zMVc A Y F (zf_wrkc V p1ξ p2ξ p3ξ p4ξ p5ξ).2 u.1 Ga137 ∧ ((zf_ans (zf_adw1 (zf_clr3 V).2 p1ξ p2ξ p3ξ p4ξ p5ξ).2 ((zf_adw1 (zf_clr3 V).2 p1ξ p2ξ p3ξ p4ξ p5ξ).1)).1) = (zf_wrkc V p1ξ p2ξ p3ξ p4ξ p5ξ).1
                rw [hffξ]
                exact ⟨⟨Ma137, hMa137ξ, hVa137ξ, trivial⟩, rfl⟩
              · refine zp_load (pc := 86) hx hb (zd_X11_work (86, .aload_n 0, 1, 0, []) (List.mem_of_getElem? (i := 41) rfl)) rfl (j := 0) rfl ?_
                refine zp_const (pc := 87) hx hb (zd_X11_work (87, .bipush (-5), 2, 0, []) (List.mem_of_getElem? (i := 42) rfl)) rfl rfl ?_
                refine zp_call (pc := 89) (how := 0) (idx := 111) (mi := 16) (S := []) hx hb hEξ hwξ heffξ hrmξ (zX_rfs hWξ A Y F V) rfl (j := 11) rfl rfl (by decide +kernel) (zd_X11_work (89, .invokevirtual 111, 3, 0, []) (List.mem_of_getElem? (i := 43) rfl)) [(A 0 : Int), (-5)] rfl ⟨zp_o2 (zM_P hMξ (hYbξ _ (List.mem_of_getElem? (i := 0) rfl))), zp_o0 (by omega) (by omega) (by omega) (by omega), trivial⟩ (Nat.le_of_ble_eq_true rfl) ⟨⟨M, hMξ, hVξ, trivial⟩, rfl, hYF0ξ⟩ (fun al halξ rna138ξ Pa138 Ga138 hexta138ξ hfra138ξ hoka138ξ hcsa138ξ hpsia138ξ => ?_)
                obtain rfl := List.mem_singleton.mp halξ
                have hra138ξ := zp_int (hoka138ξ _ rfl).1
                obtain ⟨hPea138ξ, ⟨Ma138, hMa138ξ, hVa138ξ, hSba138ξ⟩, hta138ξ⟩ := hpsia138ξ
                subst hPea138ξ
                clear hexta138ξ hfra138ξ hcsa138ξ hoka138ξ
                have hVa138ξ : ∀ o k, zNc o → Ma138 o k = (zf_rfs V (-5)).2 o k := hVa138ξ
                have hta138ξ : rna138ξ = ((zf_rfs V (-5)).1) := hta138ξ
                have hta138ξ := (Eq.symm hta138ξ)
                subst hta138ξ
                refine zp_iret (pc := 92) (n := ((zf_rfs V (-5)).1)) hx hb hEξ hQξ hU5ξ rfl (by decide) (zd_X11_work (92, .ireturn, 1, 0, []) (List.mem_of_getElem? (i := 44) rfl)) (j := 0) rfl (zp_o0 (by omega) (by omega) (by omega) (by omega)) ?_
                rw [hpsξ]
                refine ⟨rfl, ?_⟩
                have hffξ : zf_wrkc V p1ξ p2ξ p3ξ p4ξ p5ξ = (((zf_rfs V (-5)).1), (zf_rfs V (-5)).2) := by
                  unfold zf_wrkc
                  rw [if_pos ((Iff.mp htn103ξ) (by omega)), if_pos ((Iff.mp htn108ξ) (by omega)), if_pos ((Iff.mp htn113ξ) (by omega)), if_pos ((Iff.mp hti117ξ) (by omega)), if_neg hc122ξ, if_pos ((Iff.mp hti129ξ) (by omega)), if_neg hc134ξ]
                show zMVc A Y F (zf_wrkc V p1ξ p2ξ p3ξ p4ξ p5ξ).2 u.1 Ga138 ∧ ((zf_rfs V (-5)).1) = (zf_wrkc V p1ξ p2ξ p3ξ p4ξ p5ξ).1
                rw [hffξ]
                exact ⟨⟨Ma138, hMa138ξ, hVa138ξ, trivial⟩, rfl⟩
            · have hbf132ξ : ¬ (0 ≤ p5ξ ∧ p5ξ < (V 1 3) ∧ p5ξ < 10) := fun h9ξ => absurd ((Iff.mpr hti129ξ) h9ξ) (by omega)
              refine zp_load (pc := 67) hx hb (zd_X11_work (67, .aload_n 0, 1, 0, []) (List.mem_of_getElem? (i := 32) rfl)) rfl (j := 0) rfl ?_
              refine zp_const (pc := 68) hx hb (zd_X11_work (68, .bipush (-2), 2, 0, []) (List.mem_of_getElem? (i := 33) rfl)) rfl rfl ?_
              refine zp_call (pc := 70) (how := 0) (idx := 111) (mi := 16) (S := []) hx hb hEξ hwξ heffξ hrmξ (zX_rfs hWξ A Y F V) rfl (j := 11) rfl rfl (by decide +kernel) (zd_X11_work (70, .invokevirtual 111, 3, 0, []) (List.mem_of_getElem? (i := 34) rfl)) [(A 0 : Int), (-2)] rfl ⟨zp_o2 (zM_P hMξ (hYbξ _ (List.mem_of_getElem? (i := 0) rfl))), zp_o0 (by omega) (by omega) (by omega) (by omega), trivial⟩ (Nat.le_of_ble_eq_true rfl) ⟨⟨M, hMξ, hVξ, trivial⟩, rfl, hYF0ξ⟩ (fun al halξ rna139ξ Pa139 Ga139 hexta139ξ hfra139ξ hoka139ξ hcsa139ξ hpsia139ξ => ?_)
              obtain rfl := List.mem_singleton.mp halξ
              have hra139ξ := zp_int (hoka139ξ _ rfl).1
              obtain ⟨hPea139ξ, ⟨Ma139, hMa139ξ, hVa139ξ, hSba139ξ⟩, hta139ξ⟩ := hpsia139ξ
              subst hPea139ξ
              clear hexta139ξ hfra139ξ hcsa139ξ hoka139ξ
              have hVa139ξ : ∀ o k, zNc o → Ma139 o k = (zf_rfs V (-2)).2 o k := hVa139ξ
              have hta139ξ : rna139ξ = ((zf_rfs V (-2)).1) := hta139ξ
              have hta139ξ := (Eq.symm hta139ξ)
              subst hta139ξ
              refine zp_iret (pc := 73) (n := ((zf_rfs V (-2)).1)) hx hb hEξ hQξ hU5ξ rfl (by decide) (zd_X11_work (73, .ireturn, 1, 0, []) (List.mem_of_getElem? (i := 35) rfl)) (j := 0) rfl (zp_o0 (by omega) (by omega) (by omega) (by omega)) ?_
              rw [hpsξ]
              refine ⟨rfl, ?_⟩
              have hffξ : zf_wrkc V p1ξ p2ξ p3ξ p4ξ p5ξ = (((zf_rfs V (-2)).1), (zf_rfs V (-2)).2) := by
                unfold zf_wrkc
                rw [if_pos ((Iff.mp htn103ξ) (by omega)), if_pos ((Iff.mp htn108ξ) (by omega)), if_pos ((Iff.mp htn113ξ) (by omega)), if_pos ((Iff.mp hti117ξ) (by omega)), if_neg hc122ξ, if_neg (fun h9ξ => absurd ((Iff.mpr hti129ξ) h9ξ) (by omega))]
              show zMVc A Y F (zf_wrkc V p1ξ p2ξ p3ξ p4ξ p5ξ).2 u.1 Ga139 ∧ ((zf_rfs V (-2)).1) = (zf_wrkc V p1ξ p2ξ p3ξ p4ξ p5ξ).1
              rw [hffξ]
              exact ⟨⟨Ma139, hMa139ξ, hVa139ξ, trivial⟩, rfl⟩
      · have hbf116ξ : ¬ (1 ≤ p4ξ ∧ p4ξ ≤ 99) := fun h9ξ => absurd ((Iff.mpr htn113ξ) h9ξ) (by omega)
        refine zp_load (pc := 32) hx hb (zd_X11_work (32, .aload_n 0, 1, 0, []) (List.mem_of_getElem? (i := 15) rfl)) rfl (j := 0) rfl ?_
        refine zp_const (pc := 33) hx hb (zd_X11_work (33, .iconst (-1), 1, 0, []) (List.mem_of_getElem? (i := 16) rfl)) rfl rfl ?_
        refine zp_call (pc := 34) (how := 0) (idx := 111) (mi := 16) (S := []) hx hb hEξ hwξ heffξ hrmξ (zX_rfs hWξ A Y F V) rfl (j := 11) rfl rfl (by decide +kernel) (zd_X11_work (34, .invokevirtual 111, 3, 0, []) (List.mem_of_getElem? (i := 17) rfl)) [(A 0 : Int), (-1)] rfl ⟨zp_o2 (zM_P hMξ (hYbξ _ (List.mem_of_getElem? (i := 0) rfl))), zp_o0 (by omega) (by omega) (by omega) (by omega), trivial⟩ (Nat.le_of_ble_eq_true rfl) ⟨⟨M, hMξ, hVξ, trivial⟩, rfl, hYF0ξ⟩ (fun al halξ rna140ξ Pa140 Ga140 hexta140ξ hfra140ξ hoka140ξ hcsa140ξ hpsia140ξ => ?_)
        obtain rfl := List.mem_singleton.mp halξ
        have hra140ξ := zp_int (hoka140ξ _ rfl).1
        obtain ⟨hPea140ξ, ⟨Ma140, hMa140ξ, hVa140ξ, hSba140ξ⟩, hta140ξ⟩ := hpsia140ξ
        subst hPea140ξ
        clear hexta140ξ hfra140ξ hcsa140ξ hoka140ξ
        have hVa140ξ : ∀ o k, zNc o → Ma140 o k = (zf_rfs V (-1)).2 o k := hVa140ξ
        have hta140ξ : rna140ξ = ((zf_rfs V (-1)).1) := hta140ξ
        have hta140ξ := (Eq.symm hta140ξ)
        subst hta140ξ
        refine zp_iret (pc := 37) (n := ((zf_rfs V (-1)).1)) hx hb hEξ hQξ hU5ξ rfl (by decide) (zd_X11_work (37, .ireturn, 1, 0, []) (List.mem_of_getElem? (i := 18) rfl)) (j := 0) rfl (zp_o0 (by omega) (by omega) (by omega) (by omega)) ?_
        rw [hpsξ]
        refine ⟨rfl, ?_⟩
        have hffξ : zf_wrkc V p1ξ p2ξ p3ξ p4ξ p5ξ = (((zf_rfs V (-1)).1), (zf_rfs V (-1)).2) := by
          unfold zf_wrkc
          rw [if_pos ((Iff.mp htn103ξ) (by omega)), if_pos ((Iff.mp htn108ξ) (by omega)), if_neg (fun h9ξ => absurd ((Iff.mpr htn113ξ) h9ξ) (by omega))]
        show zMVc A Y F (zf_wrkc V p1ξ p2ξ p3ξ p4ξ p5ξ).2 u.1 Ga140 ∧ ((zf_rfs V (-1)).1) = (zf_wrkc V p1ξ p2ξ p3ξ p4ξ p5ξ).1
        rw [hffξ]
        exact ⟨⟨Ma140, hMa140ξ, hVa140ξ, trivial⟩, rfl⟩
noncomputable def zf_terc (V : Nat → Nat → Int) (p1ξ : Int) (p2ξ : Int) : Int × (Nat → Nat → Int) := if ¬ p1ξ = 0 then if ¬ p1ξ = 1 then if ¬ p1ξ = 2 then (((zf_rfs V (-1)).1), (zf_rfs V (-1)).2) else if 0 ≤ p2ξ ∧ p2ξ ≤ 9 then (((zf_ans (zf_clr3 (zp_set V 1 17 p2ξ)).2 (V 1 17)).1), (zf_ans (zf_clr3 (zp_set V 1 17 p2ξ)).2 (V 1 17)).2) else (((zf_rfs V (-1)).1), (zf_rfs V (-1)).2) else if 1 ≤ p2ξ ∧ p2ξ ≤ 9 then (((zf_ans (zf_clr3 (zp_set V 1 16 p2ξ)).2 (V 1 16)).1), (zf_ans (zf_clr3 (zp_set V 1 16 p2ξ)).2 (V 1 16)).2) else (((zf_rfs V (-1)).1), (zf_rfs V (-1)).2) else if 0 ≤ p2ξ ∧ p2ξ ≤ 999 then (((zf_ans (zf_clr3 (zp_set V 2 6 p2ξ)).2 (V 2 6)).1), (zf_ans (zf_clr3 (zp_set V 2 6 p2ξ)).2 (V 2 6)).2) else (((zf_rfs V (-1)).1), (zf_rfs V (-1)).2)
noncomputable def zK_terc : zk_K := (zt_mn 30, prog_1_method_8_code, 4, (Option.some Jvm.ClassFile.FieldType.int), 1, 11, [(2, 12, 0, 0), (0, 0, (-2147483648), 2147483647), (0, 0, (-2147483648), 2147483647)], [(some (0, 0, (-2147483648), 2147483647), [])], zUC, (2, 180, 0, 0))
noncomputable def zφ_terc (A : Nat → Nat) (Y : List (Nat × Nat)) (F : List (Nat × Nat × Nat)) (V : Nat → Nat → Int) : (Nat → Option Nat) → (Nat → Nat → Int) → List Int → Prop := fun P G ps => zMVc A Y F V P G ∧ ps.getD 0 0 = (A 0 : Int) ∧ zMc Y F
noncomputable def zψ_terc (A : Nat → Nat) (Y : List (Nat × Nat)) (F : List (Nat × Nat × Nat)) (V : Nat → Nat → Int) : (Nat → Option Nat) → (Nat → Nat → Int) → List Int → (Nat → Option Nat) → (Nat → Nat → Int) → Int → Prop := fun P G ps P' G' rn => P' = P ∧ zMVc A Y F (zf_terc V (ps.getD 1 0) (ps.getD 2 0)).2 P' G' ∧ rn = (zf_terc V (ps.getD 1 0) (ps.getD 2 0)).1
theorem zX_terc {l : Launch} {w : zk_W} (hWξ : zh_W w) (A : Nat → Nat) (Y : List (Nat × Nat)) (F : List (Nat × Nat × Nat)) (V : Nat → Nat → Int) : zk_metX l w zt_dv zt_TB zK_terc (zp_A (zφ_terc A Y F V)) (zp_B (zψ_terc A Y F V)) ∧ zk_cok w zt_TB zK_terc := by
  refine zp_methX (cn := "WoundTown") zp_lkallW hWξ (pl := 668) rfl (by decide +kernel) (fun p e R s m args below meth c Q u hx hb hEξ hQξ hU5ξ heffξ hnLξ hokξ hφ => ?_)
  have hwξ := hWξ.1
  obtain ⟨p0ξ, p1ξ, p2ξ, hpsξ, tk0, tk1, tk2⟩ := zp_ps3 hokξ
  have hrmξ : zk_Kr (zk_ev (zt_types, zp_lkW, zt_dv, [], [], zp_lcW, zK_terc)) = zk_Kr zK_terc := rfl
  rw [hpsξ] at hφ ⊢
  have hφ : zMVc A Y F V u.1 (zp_n u.2.1) ∧ p0ξ = (A 0 : Int) ∧ zMc Y F := hφ
  obtain ⟨⟨M, hMξ, hVξ, hSbξ⟩, rfl, hYFξ⟩ := hφ
  have hYF0ξ := hYFξ
  obtain ⟨hYbξ, hFbξ, hFxξ, -⟩ := hYFξ
  have hi1ξ := zp_int tk1
  have hi2ξ := zp_int tk2
  show zp_J p l e R s m args below meth c Q w u [] 0 [(0, 2, (A 0 : Int)), (1, 0, p1ξ), (2, 0, p2ξ)] [] u.1 (zp_n u.2.1)
  refine zp_load (pc := 0) hx hb (zd_X11_terms (0, .iload_n 1, 1, 0, []) (List.mem_of_getElem? (i := 0) rfl)) rfl (j := 1) rfl ?_
  refine zp_if (pc := 1) (tgt := 40) hx hb (zd_X11_terms (1, .ifCond .ne 39, 3, 0, []) (List.mem_of_getElem? (i := 1) rfl)) rfl (fun (hc141ξ : ¬ p1ξ = 0) => ?_) (fun (hc141ξ : ¬ (¬ p1ξ = 0)) => ?_)
  · refine zp_load (pc := 40) hx hb (zd_X11_terms (40, .iload_n 1, 1, 0, []) (List.mem_of_getElem? (i := 18) rfl)) rfl (j := 1) rfl ?_
    refine zp_const (pc := 41) hx hb (zd_X11_terms (41, .iconst 1, 1, 0, []) (List.mem_of_getElem? (i := 19) rfl)) rfl rfl ?_
    refine zp_icmp (pc := 42) (tgt := 74) hx hb (zd_X11_terms (42, .if_icmp .ne 32, 3, 0, []) (List.mem_of_getElem? (i := 20) rfl)) rfl (fun (hc142ξ : ¬ p1ξ = 1) => ?_) (fun (hc142ξ : ¬ (¬ p1ξ = 1)) => ?_)
    · refine zp_load (pc := 74) hx hb (zd_X11_terms (74, .iload_n 1, 1, 0, []) (List.mem_of_getElem? (i := 35) rfl)) rfl (j := 1) rfl ?_
      refine zp_const (pc := 75) hx hb (zd_X11_terms (75, .iconst 2, 1, 0, []) (List.mem_of_getElem? (i := 36) rfl)) rfl rfl ?_
      refine zp_icmp (pc := 76) (tgt := 108) hx hb (zd_X11_terms (76, .if_icmp .ne 32, 3, 0, []) (List.mem_of_getElem? (i := 37) rfl)) rfl (fun (hc143ξ : ¬ p1ξ = 2) => ?_) (fun (hc143ξ : ¬ (¬ p1ξ = 2)) => ?_)
      · refine zp_load (pc := 108) hx hb (zd_X11_terms (108, .aload_n 0, 1, 0, []) (List.mem_of_getElem? (i := 52) rfl)) rfl (j := 0) rfl ?_
        refine zp_const (pc := 109) hx hb (zd_X11_terms (109, .iconst (-1), 1, 0, []) (List.mem_of_getElem? (i := 53) rfl)) rfl rfl ?_
        refine zp_call (pc := 110) (how := 0) (idx := 111) (mi := 16) (S := []) hx hb hEξ hwξ heffξ hrmξ (zX_rfs hWξ A Y F V) rfl (j := 11) rfl rfl (by decide +kernel) (zd_X11_terms (110, .invokevirtual 111, 3, 0, []) (List.mem_of_getElem? (i := 54) rfl)) [(A 0 : Int), (-1)] rfl ⟨zp_o2 (zM_P hMξ (hYbξ _ (List.mem_of_getElem? (i := 0) rfl))), zp_o0 (by omega) (by omega) (by omega) (by omega), trivial⟩ (Nat.le_of_ble_eq_true rfl) ⟨⟨M, hMξ, hVξ, trivial⟩, rfl, hYF0ξ⟩ (fun al halξ rna144ξ Pa144 Ga144 hexta144ξ hfra144ξ hoka144ξ hcsa144ξ hpsia144ξ => ?_)
        obtain rfl := List.mem_singleton.mp halξ
        have hra144ξ := zp_int (hoka144ξ _ rfl).1
        obtain ⟨hPea144ξ, ⟨Ma144, hMa144ξ, hVa144ξ, hSba144ξ⟩, hta144ξ⟩ := hpsia144ξ
        subst hPea144ξ
        clear hexta144ξ hfra144ξ hcsa144ξ hoka144ξ
        have hVa144ξ : ∀ o k, zNc o → Ma144 o k = (zf_rfs V (-1)).2 o k := hVa144ξ
        have hta144ξ : rna144ξ = ((zf_rfs V (-1)).1) := hta144ξ
        have hta144ξ := (Eq.symm hta144ξ)
        subst hta144ξ
        refine zp_iret (pc := 113) (n := ((zf_rfs V (-1)).1)) hx hb hEξ hQξ hU5ξ rfl (by decide) (zd_X11_terms (113, .ireturn, 1, 0, []) (List.mem_of_getElem? (i := 55) rfl)) (j := 0) rfl (zp_o0 (by omega) (by omega) (by omega) (by omega)) ?_
        rw [hpsξ]
        refine ⟨rfl, ?_⟩
        have hffξ : zf_terc V p1ξ p2ξ = (((zf_rfs V (-1)).1), (zf_rfs V (-1)).2) := by
          unfold zf_terc
          rw [if_pos hc141ξ, if_pos hc142ξ, if_pos hc143ξ]
        show zMVc A Y F (zf_terc V p1ξ p2ξ).2 u.1 Ga144 ∧ ((zf_rfs V (-1)).1) = (zf_terc V p1ξ p2ξ).1
        rw [hffξ]
        exact ⟨⟨Ma144, hMa144ξ, hVa144ξ, trivial⟩, rfl⟩
      · refine zp_load (pc := 79) hx hb (zd_X11_terms (79, .iload_n 2, 1, 0, []) (List.mem_of_getElem? (i := 38) rfl)) rfl (j := 2) rfl ?_
        refine zp_const (pc := 80) hx hb (zd_X11_terms (80, .iconst 0, 1, 0, []) (List.mem_of_getElem? (i := 39) rfl)) rfl rfl ?_
        refine zp_const (pc := 81) hx hb (zd_X11_terms (81, .bipush 9, 2, 0, []) (List.mem_of_getElem? (i := 40) rfl)) rfl rfl ?_
        refine zp_call (pc := 83) (how := 1) (idx := 107) (mi := 15) (S := []) hx hb hEξ hwξ heffξ hrmξ (zX_iwn hWξ) rfl (j := 10) rfl rfl (by decide +kernel) (zd_X11_terms (83, .invokestatic 107, 3, 0, []) (List.mem_of_getElem? (i := 41) rfl)) [p2ξ, 0, 9] rfl ⟨zp_o0 (by omega) (by omega) (by omega) (by omega), zp_o0 (by omega) (by omega) (by omega) (by omega), zp_o0 (by omega) (by omega) (by omega) (by omega), trivial⟩ (Nat.le_of_ble_eq_true rfl) trivial (fun al halξ rnn145ξ Pn145 Gn145 hextn145ξ hfrn145ξ hokn145ξ hcsn145ξ hpsin145ξ => ?_)
        obtain rfl := List.mem_singleton.mp halξ
        have hrn145ξ := zp_int (hokn145ξ _ rfl).1
        obtain ⟨hPen145ξ, hGen145ξ, htn145ξ⟩ := hpsin145ξ
        rw [hPen145ξ, hGen145ξ]
        clear hextn145ξ hfrn145ξ hcsn145ξ hPen145ξ hGen145ξ
        have htn145ξ : rnn145ξ = 1 ↔ 0 ≤ p2ξ ∧ p2ξ ≤ 9 := htn145ξ
        refine zp_if (pc := 86) (tgt := 108) hx hb (zd_X11_terms (86, .ifCond .eq 22, 3, 0, []) (List.mem_of_getElem? (i := 42) rfl)) rfl (fun (hc146ξ : rnn145ξ = 0) => ?_) (fun (hc146ξ : ¬ (rnn145ξ = 0)) => ?_)
        · have hbf147ξ : ¬ (0 ≤ p2ξ ∧ p2ξ ≤ 9) := fun h9ξ => absurd ((Iff.mpr htn145ξ) h9ξ) (by omega)
          refine zp_load (pc := 108) hx hb (zd_X11_terms (108, .aload_n 0, 1, 0, []) (List.mem_of_getElem? (i := 52) rfl)) rfl (j := 0) rfl ?_
          refine zp_const (pc := 109) hx hb (zd_X11_terms (109, .iconst (-1), 1, 0, []) (List.mem_of_getElem? (i := 53) rfl)) rfl rfl ?_
          refine zp_call (pc := 110) (how := 0) (idx := 111) (mi := 16) (S := []) hx hb hEξ hwξ heffξ hrmξ (zX_rfs hWξ A Y F V) rfl (j := 11) rfl rfl (by decide +kernel) (zd_X11_terms (110, .invokevirtual 111, 3, 0, []) (List.mem_of_getElem? (i := 54) rfl)) [(A 0 : Int), (-1)] rfl ⟨zp_o2 (zM_P hMξ (hYbξ _ (List.mem_of_getElem? (i := 0) rfl))), zp_o0 (by omega) (by omega) (by omega) (by omega), trivial⟩ (Nat.le_of_ble_eq_true rfl) ⟨⟨M, hMξ, hVξ, trivial⟩, rfl, hYF0ξ⟩ (fun al halξ rna149ξ Pa149 Ga149 hexta149ξ hfra149ξ hoka149ξ hcsa149ξ hpsia149ξ => ?_)
          obtain rfl := List.mem_singleton.mp halξ
          have hra149ξ := zp_int (hoka149ξ _ rfl).1
          obtain ⟨hPea149ξ, ⟨Ma149, hMa149ξ, hVa149ξ, hSba149ξ⟩, hta149ξ⟩ := hpsia149ξ
          subst hPea149ξ
          clear hexta149ξ hfra149ξ hcsa149ξ hoka149ξ
          have hVa149ξ : ∀ o k, zNc o → Ma149 o k = (zf_rfs V (-1)).2 o k := hVa149ξ
          have hta149ξ : rna149ξ = ((zf_rfs V (-1)).1) := hta149ξ
          have hta149ξ := (Eq.symm hta149ξ)
          subst hta149ξ
          refine zp_iret (pc := 113) (n := ((zf_rfs V (-1)).1)) hx hb hEξ hQξ hU5ξ rfl (by decide) (zd_X11_terms (113, .ireturn, 1, 0, []) (List.mem_of_getElem? (i := 55) rfl)) (j := 0) rfl (zp_o0 (by omega) (by omega) (by omega) (by omega)) ?_
          rw [hpsξ]
          refine ⟨rfl, ?_⟩
          have hffξ : zf_terc V p1ξ p2ξ = (((zf_rfs V (-1)).1), (zf_rfs V (-1)).2) := by
            unfold zf_terc
            rw [if_pos hc141ξ, if_pos hc142ξ, if_neg hc143ξ, if_neg (fun h9ξ => absurd ((Iff.mpr htn145ξ) h9ξ) (by omega))]
          show zMVc A Y F (zf_terc V p1ξ p2ξ).2 u.1 Ga149 ∧ ((zf_rfs V (-1)).1) = (zf_terc V p1ξ p2ξ).1
          rw [hffξ]
          exact ⟨⟨Ma149, hMa149ξ, hVa149ξ, trivial⟩, rfl⟩
        · have hbt148ξ := (Iff.mp htn145ξ) (by omega)
          refine zp_load (pc := 89) hx hb (zd_X11_terms (89, .aload_n 0, 1, 0, []) (List.mem_of_getElem? (i := 43) rfl)) rfl (j := 0) rfl ?_
          refine zp_getf (n := (A 1 : Int)) (pc := 90) hx hb hEξ hwξ (zd_X11_terms (90, .getfield 10, 3, 0, []) (List.mem_of_getElem? (i := 44) rfl)) (j := 50) rfl rfl rfl (zM_P hMξ (hYbξ _ (List.mem_of_getElem? (i := 0) rfl))) ((zM_G hMξ (hYbξ _ (List.mem_of_getElem? (i := 0) rfl)) 0).trans (zM_F hMξ (hFbξ _ (List.mem_of_getElem? (i := 0) rfl)))) ?_
          refine zp_getf (n := (V 1 17)) (pc := 93) hx hb hEξ hwξ (zd_X11_terms (93, .getfield 183, 3, 0, []) (List.mem_of_getElem? (i := 45) rfl)) (j := 23) rfl rfl rfl (zM_P hMξ (hYbξ _ (List.mem_of_getElem? (i := 1) rfl))) ((zM_G hMξ (hYbξ _ (List.mem_of_getElem? (i := 1) rfl)) 17).trans (hVξ 1 17 (by decide))) ?_
          refine zp_kn (k := 17) (a := (A 1)) hwξ (show zp_fd 10 17 = some (9, 0, 0, (-2147483648), 2147483647) from rfl) rfl (zM_P hMξ (hYbξ _ (List.mem_of_getElem? (i := 1) rfl))) (fun hf150ξ => ?_)
          have hf150bξ := zp_int hf150ξ
          rw [((zM_G hMξ (hYbξ _ (List.mem_of_getElem? (i := 1) rfl)) 17).trans (hVξ 1 17 (by decide)))] at hf150bξ
          clear hf150ξ
          refine zp_store (L' := [(3, 0, (V 1 17)), (0, 2, (A 0 : Int)), (1, 0, p1ξ), (2, 0, p2ξ)]) (pc := 96) hx hb hnLξ (zd_X11_terms (96, .istore_n 3, 1, 0, []) (List.mem_of_getElem? (i := 46) rfl)) rfl rfl rfl ?_
          refine zp_load (pc := 97) hx hb (zd_X11_terms (97, .aload_n 0, 1, 0, []) (List.mem_of_getElem? (i := 47) rfl)) rfl (j := 1) rfl ?_
          refine zp_getf (n := (A 1 : Int)) (pc := 98) hx hb hEξ hwξ (zd_X11_terms (98, .getfield 10, 3, 0, []) (List.mem_of_getElem? (i := 48) rfl)) (j := 50) rfl rfl rfl (zM_P hMξ (hYbξ _ (List.mem_of_getElem? (i := 0) rfl))) ((zM_G hMξ (hYbξ _ (List.mem_of_getElem? (i := 0) rfl)) 0).trans (zM_F hMξ (hFbξ _ (List.mem_of_getElem? (i := 0) rfl)))) ?_
          refine zp_load (pc := 101) hx hb (zd_X11_terms (101, .iload_n 2, 1, 0, []) (List.mem_of_getElem? (i := 49) rfl)) rfl (j := 3) rfl ?_
          refine zp_putf (pc := 102) hx hb hEξ hwξ heffξ (zd_X11_terms (102, .putfield 183, 3, 0, []) (List.mem_of_getElem? (i := 50) rfl)) (j := 23) rfl rfl rfl (zM_P hMξ (hYbξ _ (List.mem_of_getElem? (i := 1) rfl))) (zp_o0 (by omega) (by omega) (by omega) (by omega)) ?_
          refine zp_goto (tgt := 114) (pc := 105) hx hb (zd_X11_terms (105, .goto 9, 3, 0, []) (List.mem_of_getElem? (i := 51) rfl)) rfl ?_
          refine zp_load (pc := 114) hx hb (zd_X11_terms (114, .aload_n 0, 1, 0, []) (List.mem_of_getElem? (i := 56) rfl)) rfl (j := 1) rfl ?_
          refine zp_getf (n := (A 3 : Int)) (pc := 115) hx hb hEξ hwξ (zd_X11_terms (115, .getfield 23, 3, 0, []) (List.mem_of_getElem? (i := 57) rfl)) (j := 52) rfl rfl rfl (zM_P hMξ (hYbξ _ (List.mem_of_getElem? (i := 0) rfl))) ((zp_set_ne (Or.inl (zM_ne hMξ (hYbξ _ (List.mem_of_getElem? (i := 0) rfl)) (hYbξ _ (List.mem_of_getElem? (i := 1) rfl)) (by decide)))).trans (((zM_G hMξ (hYbξ _ (List.mem_of_getElem? (i := 0) rfl)) 2).trans (zM_F hMξ (hFbξ _ (List.mem_of_getElem? (i := 2) rfl)))))) ?_
          refine zp_call (pc := 118) (how := 0) (idx := 124) (mi := 19) (S := []) hx hb hEξ hwξ heffξ hrmξ (zX_clr3 hWξ A Y F (zp_set V 1 17 p2ξ)) rfl (j := 13) rfl rfl (by decide +kernel) (zd_X11_terms (118, .invokevirtual 124, 3, 0, []) (List.mem_of_getElem? (i := 58) rfl)) [(A 3 : Int)] rfl ⟨zp_o2 (zM_P hMξ (hYbξ _ (List.mem_of_getElem? (i := 3) rfl))), trivial⟩ (Nat.le_of_ble_eq_true rfl) ⟨⟨(zp_set M 1 17 p2ξ), (zM_set hMξ (hYbξ _ (List.mem_of_getElem? (i := 1) rfl)) (zFx hFxξ (o := 1) (k := 17) (by decide) (by decide))), (zV_set hVξ), trivial⟩, rfl, hYF0ξ⟩ (fun al halξ rna151ξ Pa151 Ga151 hexta151ξ hfra151ξ hoka151ξ hcsa151ξ hpsia151ξ => ?_)
          obtain rfl := List.mem_singleton.mp halξ
          obtain ⟨hPea151ξ, Ma151, hMa151ξ, hVa151ξ, hSba151ξ⟩ := hpsia151ξ
          subst hPea151ξ
          clear hexta151ξ hfra151ξ hcsa151ξ hoka151ξ
          have hVa151ξ : ∀ o k, zNc o → Ma151 o k = (zf_clr3 (zp_set V 1 17 p2ξ)).2 o k := hVa151ξ
          refine zp_load (pc := 121) hx hb (zd_X11_terms (121, .aload_n 0, 1, 0, []) (List.mem_of_getElem? (i := 59) rfl)) rfl (j := 1) rfl ?_
          refine zp_load (pc := 122) hx hb (zd_X11_terms (122, .iload_n 3, 1, 0, []) (List.mem_of_getElem? (i := 60) rfl)) rfl (j := 0) rfl ?_
          refine zp_call (pc := 123) (how := 0) (idx := 118) (mi := 17) (S := []) hx hb hEξ hwξ heffξ hrmξ (zX_ans hWξ A Y F (zf_clr3 (zp_set V 1 17 p2ξ)).2) rfl (j := 12) rfl rfl (by decide +kernel) (zd_X11_terms (123, .invokevirtual 118, 3, 0, []) (List.mem_of_getElem? (i := 61) rfl)) [(A 0 : Int), (V 1 17)] rfl ⟨zp_o2 (zM_P hMa151ξ (hYbξ _ (List.mem_of_getElem? (i := 0) rfl))), zp_o0 (by omega) (by omega) (by omega) (by omega), trivial⟩ (Nat.le_of_ble_eq_true rfl) ⟨⟨Ma151, hMa151ξ, hVa151ξ, trivial⟩, rfl, hYF0ξ⟩ (fun al halξ rna152ξ Pa152 Ga152 hexta152ξ hfra152ξ hoka152ξ hcsa152ξ hpsia152ξ => ?_)
          obtain rfl := List.mem_singleton.mp halξ
          have hra152ξ := zp_int (hoka152ξ _ rfl).1
          obtain ⟨hPea152ξ, ⟨Ma152, hMa152ξ, hVa152ξ, hSba152ξ⟩, hta152ξ⟩ := hpsia152ξ
          subst hPea152ξ
          clear hexta152ξ hfra152ξ hcsa152ξ hoka152ξ
          have hVa152ξ : ∀ o k, zNc o → Ma152 o k = (zf_ans (zf_clr3 (zp_set V 1 17 p2ξ)).2 (V 1 17)).2 o k := hVa152ξ
          have hta152ξ : rna152ξ = ((zf_ans (zf_clr3 (zp_set V 1 17 p2ξ)).2 (V 1 17)).1) := hta152ξ
          have hta152ξ := (Eq.symm hta152ξ)
          subst hta152ξ
          refine zp_iret (pc := 126) (n := ((zf_ans (zf_clr3 (zp_set V 1 17 p2ξ)).2 (V 1 17)).1)) hx hb hEξ hQξ hU5ξ rfl (by decide) (zd_X11_terms (126, .ireturn, 1, 0, []) (List.mem_of_getElem? (i := 62) rfl)) (j := 0) rfl (zp_o0 (by omega) (by omega) (by omega) (by omega)) ?_
          rw [hpsξ]
          refine ⟨rfl, ?_⟩
          have hffξ : zf_terc V p1ξ p2ξ = (((zf_ans (zf_clr3 (zp_set V 1 17 p2ξ)).2 (V 1 17)).1), (zf_ans (zf_clr3 (zp_set V 1 17 p2ξ)).2 (V 1 17)).2) := by
            unfold zf_terc
            rw [if_pos hc141ξ, if_pos hc142ξ, if_neg hc143ξ, if_pos ((Iff.mp htn145ξ) (by omega))]
          show zMVc A Y F (zf_terc V p1ξ p2ξ).2 u.1 Ga152 ∧ ((zf_ans (zf_clr3 (zp_set V 1 17 p2ξ)).2 (V 1 17)).1) = (zf_terc V p1ξ p2ξ).1
          rw [hffξ]
          exact ⟨⟨Ma152, hMa152ξ, hVa152ξ, trivial⟩, rfl⟩
    · refine zp_load (pc := 45) hx hb (zd_X11_terms (45, .iload_n 2, 1, 0, []) (List.mem_of_getElem? (i := 21) rfl)) rfl (j := 2) rfl ?_
      refine zp_const (pc := 46) hx hb (zd_X11_terms (46, .iconst 1, 1, 0, []) (List.mem_of_getElem? (i := 22) rfl)) rfl rfl ?_
      refine zp_const (pc := 47) hx hb (zd_X11_terms (47, .bipush 9, 2, 0, []) (List.mem_of_getElem? (i := 23) rfl)) rfl rfl ?_
      refine zp_call (pc := 49) (how := 1) (idx := 107) (mi := 15) (S := []) hx hb hEξ hwξ heffξ hrmξ (zX_iwn hWξ) rfl (j := 10) rfl rfl (by decide +kernel) (zd_X11_terms (49, .invokestatic 107, 3, 0, []) (List.mem_of_getElem? (i := 24) rfl)) [p2ξ, 1, 9] rfl ⟨zp_o0 (by omega) (by omega) (by omega) (by omega), zp_o0 (by omega) (by omega) (by omega) (by omega), zp_o0 (by omega) (by omega) (by omega) (by omega), trivial⟩ (Nat.le_of_ble_eq_true rfl) trivial (fun al halξ rnn153ξ Pn153 Gn153 hextn153ξ hfrn153ξ hokn153ξ hcsn153ξ hpsin153ξ => ?_)
      obtain rfl := List.mem_singleton.mp halξ
      have hrn153ξ := zp_int (hokn153ξ _ rfl).1
      obtain ⟨hPen153ξ, hGen153ξ, htn153ξ⟩ := hpsin153ξ
      rw [hPen153ξ, hGen153ξ]
      clear hextn153ξ hfrn153ξ hcsn153ξ hPen153ξ hGen153ξ
      have htn153ξ : rnn153ξ = 1 ↔ 1 ≤ p2ξ ∧ p2ξ ≤ 9 := htn153ξ
      refine zp_if (pc := 52) (tgt := 74) hx hb (zd_X11_terms (52, .ifCond .eq 22, 3, 0, []) (List.mem_of_getElem? (i := 25) rfl)) rfl (fun (hc154ξ : rnn153ξ = 0) => ?_) (fun (hc154ξ : ¬ (rnn153ξ = 0)) => ?_)
      · have hbf155ξ : ¬ (1 ≤ p2ξ ∧ p2ξ ≤ 9) := fun h9ξ => absurd ((Iff.mpr htn153ξ) h9ξ) (by omega)
        refine zp_load (pc := 74) hx hb (zd_X11_terms (74, .iload_n 1, 1, 0, []) (List.mem_of_getElem? (i := 35) rfl)) rfl (j := 1) rfl ?_
        refine zp_const (pc := 75) hx hb (zd_X11_terms (75, .iconst 2, 1, 0, []) (List.mem_of_getElem? (i := 36) rfl)) rfl rfl ?_
        refine zp_icmp (pc := 76) (tgt := 108) hx hb (zd_X11_terms (76, .if_icmp .ne 32, 3, 0, []) (List.mem_of_getElem? (i := 37) rfl)) rfl (fun (hc157ξ : ¬ p1ξ = 2) => ?_) (fun (hc157ξ : ¬ (¬ p1ξ = 2)) => ?_)
        · refine zp_load (pc := 108) hx hb (zd_X11_terms (108, .aload_n 0, 1, 0, []) (List.mem_of_getElem? (i := 52) rfl)) rfl (j := 0) rfl ?_
          refine zp_const (pc := 109) hx hb (zd_X11_terms (109, .iconst (-1), 1, 0, []) (List.mem_of_getElem? (i := 53) rfl)) rfl rfl ?_
          refine zp_call (pc := 110) (how := 0) (idx := 111) (mi := 16) (S := []) hx hb hEξ hwξ heffξ hrmξ (zX_rfs hWξ A Y F V) rfl (j := 11) rfl rfl (by decide +kernel) (zd_X11_terms (110, .invokevirtual 111, 3, 0, []) (List.mem_of_getElem? (i := 54) rfl)) [(A 0 : Int), (-1)] rfl ⟨zp_o2 (zM_P hMξ (hYbξ _ (List.mem_of_getElem? (i := 0) rfl))), zp_o0 (by omega) (by omega) (by omega) (by omega), trivial⟩ (Nat.le_of_ble_eq_true rfl) ⟨⟨M, hMξ, hVξ, trivial⟩, rfl, hYF0ξ⟩ (fun al halξ rna158ξ Pa158 Ga158 hexta158ξ hfra158ξ hoka158ξ hcsa158ξ hpsia158ξ => ?_)
          obtain rfl := List.mem_singleton.mp halξ
          have hra158ξ := zp_int (hoka158ξ _ rfl).1
          obtain ⟨hPea158ξ, ⟨Ma158, hMa158ξ, hVa158ξ, hSba158ξ⟩, hta158ξ⟩ := hpsia158ξ
          subst hPea158ξ
          clear hexta158ξ hfra158ξ hcsa158ξ hoka158ξ
          have hVa158ξ : ∀ o k, zNc o → Ma158 o k = (zf_rfs V (-1)).2 o k := hVa158ξ
          have hta158ξ : rna158ξ = ((zf_rfs V (-1)).1) := hta158ξ
          have hta158ξ := (Eq.symm hta158ξ)
          subst hta158ξ
          refine zp_iret (pc := 113) (n := ((zf_rfs V (-1)).1)) hx hb hEξ hQξ hU5ξ rfl (by decide) (zd_X11_terms (113, .ireturn, 1, 0, []) (List.mem_of_getElem? (i := 55) rfl)) (j := 0) rfl (zp_o0 (by omega) (by omega) (by omega) (by omega)) ?_
          rw [hpsξ]
          refine ⟨rfl, ?_⟩
          have hffξ : zf_terc V p1ξ p2ξ = (((zf_rfs V (-1)).1), (zf_rfs V (-1)).2) := by
            unfold zf_terc
            rw [if_pos hc141ξ, if_neg hc142ξ, if_neg (fun h9ξ => absurd ((Iff.mpr htn153ξ) h9ξ) (by omega))]
          show zMVc A Y F (zf_terc V p1ξ p2ξ).2 u.1 Ga158 ∧ ((zf_rfs V (-1)).1) = (zf_terc V p1ξ p2ξ).1
          rw [hffξ]
          exact ⟨⟨Ma158, hMa158ξ, hVa158ξ, trivial⟩, rfl⟩
        · exfalso
          omega
      · have hbt156ξ := (Iff.mp htn153ξ) (by omega)
        refine zp_load (pc := 55) hx hb (zd_X11_terms (55, .aload_n 0, 1, 0, []) (List.mem_of_getElem? (i := 26) rfl)) rfl (j := 0) rfl ?_
        refine zp_getf (n := (A 1 : Int)) (pc := 56) hx hb hEξ hwξ (zd_X11_terms (56, .getfield 10, 3, 0, []) (List.mem_of_getElem? (i := 27) rfl)) (j := 50) rfl rfl rfl (zM_P hMξ (hYbξ _ (List.mem_of_getElem? (i := 0) rfl))) ((zM_G hMξ (hYbξ _ (List.mem_of_getElem? (i := 0) rfl)) 0).trans (zM_F hMξ (hFbξ _ (List.mem_of_getElem? (i := 0) rfl)))) ?_
        refine zp_getf (n := (V 1 16)) (pc := 59) hx hb hEξ hwξ (zd_X11_terms (59, .getfield 180, 3, 0, []) (List.mem_of_getElem? (i := 28) rfl)) (j := 22) rfl rfl rfl (zM_P hMξ (hYbξ _ (List.mem_of_getElem? (i := 1) rfl))) ((zM_G hMξ (hYbξ _ (List.mem_of_getElem? (i := 1) rfl)) 16).trans (hVξ 1 16 (by decide))) ?_
        refine zp_kn (k := 16) (a := (A 1)) hwξ (show zp_fd 10 16 = some (9, 0, 0, (-2147483648), 2147483647) from rfl) rfl (zM_P hMξ (hYbξ _ (List.mem_of_getElem? (i := 1) rfl))) (fun hf159ξ => ?_)
        have hf159bξ := zp_int hf159ξ
        rw [((zM_G hMξ (hYbξ _ (List.mem_of_getElem? (i := 1) rfl)) 16).trans (hVξ 1 16 (by decide)))] at hf159bξ
        clear hf159ξ
        refine zp_store (L' := [(3, 0, (V 1 16)), (0, 2, (A 0 : Int)), (1, 0, p1ξ), (2, 0, p2ξ)]) (pc := 62) hx hb hnLξ (zd_X11_terms (62, .istore_n 3, 1, 0, []) (List.mem_of_getElem? (i := 29) rfl)) rfl rfl rfl ?_
        refine zp_load (pc := 63) hx hb (zd_X11_terms (63, .aload_n 0, 1, 0, []) (List.mem_of_getElem? (i := 30) rfl)) rfl (j := 1) rfl ?_
        refine zp_getf (n := (A 1 : Int)) (pc := 64) hx hb hEξ hwξ (zd_X11_terms (64, .getfield 10, 3, 0, []) (List.mem_of_getElem? (i := 31) rfl)) (j := 50) rfl rfl rfl (zM_P hMξ (hYbξ _ (List.mem_of_getElem? (i := 0) rfl))) ((zM_G hMξ (hYbξ _ (List.mem_of_getElem? (i := 0) rfl)) 0).trans (zM_F hMξ (hFbξ _ (List.mem_of_getElem? (i := 0) rfl)))) ?_
        refine zp_load (pc := 67) hx hb (zd_X11_terms (67, .iload_n 2, 1, 0, []) (List.mem_of_getElem? (i := 32) rfl)) rfl (j := 3) rfl ?_
        refine zp_putf (pc := 68) hx hb hEξ hwξ heffξ (zd_X11_terms (68, .putfield 180, 3, 0, []) (List.mem_of_getElem? (i := 33) rfl)) (j := 22) rfl rfl rfl (zM_P hMξ (hYbξ _ (List.mem_of_getElem? (i := 1) rfl))) (zp_o0 (by omega) (by omega) (by omega) (by omega)) ?_
        refine zp_goto (tgt := 114) (pc := 71) hx hb (zd_X11_terms (71, .goto 43, 3, 0, []) (List.mem_of_getElem? (i := 34) rfl)) rfl ?_
        refine zp_load (pc := 114) hx hb (zd_X11_terms (114, .aload_n 0, 1, 0, []) (List.mem_of_getElem? (i := 56) rfl)) rfl (j := 1) rfl ?_
        refine zp_getf (n := (A 3 : Int)) (pc := 115) hx hb hEξ hwξ (zd_X11_terms (115, .getfield 23, 3, 0, []) (List.mem_of_getElem? (i := 57) rfl)) (j := 52) rfl rfl rfl (zM_P hMξ (hYbξ _ (List.mem_of_getElem? (i := 0) rfl))) ((zp_set_ne (Or.inl (zM_ne hMξ (hYbξ _ (List.mem_of_getElem? (i := 0) rfl)) (hYbξ _ (List.mem_of_getElem? (i := 1) rfl)) (by decide)))).trans (((zM_G hMξ (hYbξ _ (List.mem_of_getElem? (i := 0) rfl)) 2).trans (zM_F hMξ (hFbξ _ (List.mem_of_getElem? (i := 2) rfl)))))) ?_
        refine zp_call (pc := 118) (how := 0) (idx := 124) (mi := 19) (S := []) hx hb hEξ hwξ heffξ hrmξ (zX_clr3 hWξ A Y F (zp_set V 1 16 p2ξ)) rfl (j := 13) rfl rfl (by decide +kernel) (zd_X11_terms (118, .invokevirtual 124, 3, 0, []) (List.mem_of_getElem? (i := 58) rfl)) [(A 3 : Int)] rfl ⟨zp_o2 (zM_P hMξ (hYbξ _ (List.mem_of_getElem? (i := 3) rfl))), trivial⟩ (Nat.le_of_ble_eq_true rfl) ⟨⟨(zp_set M 1 16 p2ξ), (zM_set hMξ (hYbξ _ (List.mem_of_getElem? (i := 1) rfl)) (zFx hFxξ (o := 1) (k := 16) (by decide) (by decide))), (zV_set hVξ), trivial⟩, rfl, hYF0ξ⟩ (fun al halξ rna160ξ Pa160 Ga160 hexta160ξ hfra160ξ hoka160ξ hcsa160ξ hpsia160ξ => ?_)
        obtain rfl := List.mem_singleton.mp halξ
        obtain ⟨hPea160ξ, Ma160, hMa160ξ, hVa160ξ, hSba160ξ⟩ := hpsia160ξ
        subst hPea160ξ
        clear hexta160ξ hfra160ξ hcsa160ξ hoka160ξ
        have hVa160ξ : ∀ o k, zNc o → Ma160 o k = (zf_clr3 (zp_set V 1 16 p2ξ)).2 o k := hVa160ξ
        refine zp_load (pc := 121) hx hb (zd_X11_terms (121, .aload_n 0, 1, 0, []) (List.mem_of_getElem? (i := 59) rfl)) rfl (j := 1) rfl ?_
        refine zp_load (pc := 122) hx hb (zd_X11_terms (122, .iload_n 3, 1, 0, []) (List.mem_of_getElem? (i := 60) rfl)) rfl (j := 0) rfl ?_
        refine zp_call (pc := 123) (how := 0) (idx := 118) (mi := 17) (S := []) hx hb hEξ hwξ heffξ hrmξ (zX_ans hWξ A Y F (zf_clr3 (zp_set V 1 16 p2ξ)).2) rfl (j := 12) rfl rfl (by decide +kernel) (zd_X11_terms (123, .invokevirtual 118, 3, 0, []) (List.mem_of_getElem? (i := 61) rfl)) [(A 0 : Int), (V 1 16)] rfl ⟨zp_o2 (zM_P hMa160ξ (hYbξ _ (List.mem_of_getElem? (i := 0) rfl))), zp_o0 (by omega) (by omega) (by omega) (by omega), trivial⟩ (Nat.le_of_ble_eq_true rfl) ⟨⟨Ma160, hMa160ξ, hVa160ξ, trivial⟩, rfl, hYF0ξ⟩ (fun al halξ rna161ξ Pa161 Ga161 hexta161ξ hfra161ξ hoka161ξ hcsa161ξ hpsia161ξ => ?_)
        obtain rfl := List.mem_singleton.mp halξ
        have hra161ξ := zp_int (hoka161ξ _ rfl).1
        obtain ⟨hPea161ξ, ⟨Ma161, hMa161ξ, hVa161ξ, hSba161ξ⟩, hta161ξ⟩ := hpsia161ξ
        subst hPea161ξ
        clear hexta161ξ hfra161ξ hcsa161ξ hoka161ξ
        have hVa161ξ : ∀ o k, zNc o → Ma161 o k = (zf_ans (zf_clr3 (zp_set V 1 16 p2ξ)).2 (V 1 16)).2 o k := hVa161ξ
        have hta161ξ : rna161ξ = ((zf_ans (zf_clr3 (zp_set V 1 16 p2ξ)).2 (V 1 16)).1) := hta161ξ
        have hta161ξ := (Eq.symm hta161ξ)
        subst hta161ξ
        refine zp_iret (pc := 126) (n := ((zf_ans (zf_clr3 (zp_set V 1 16 p2ξ)).2 (V 1 16)).1)) hx hb hEξ hQξ hU5ξ rfl (by decide) (zd_X11_terms (126, .ireturn, 1, 0, []) (List.mem_of_getElem? (i := 62) rfl)) (j := 0) rfl (zp_o0 (by omega) (by omega) (by omega) (by omega)) ?_
        rw [hpsξ]
        refine ⟨rfl, ?_⟩
        have hffξ : zf_terc V p1ξ p2ξ = (((zf_ans (zf_clr3 (zp_set V 1 16 p2ξ)).2 (V 1 16)).1), (zf_ans (zf_clr3 (zp_set V 1 16 p2ξ)).2 (V 1 16)).2) := by
          unfold zf_terc
          rw [if_pos hc141ξ, if_neg hc142ξ, if_pos ((Iff.mp htn153ξ) (by omega))]
        show zMVc A Y F (zf_terc V p1ξ p2ξ).2 u.1 Ga161 ∧ ((zf_ans (zf_clr3 (zp_set V 1 16 p2ξ)).2 (V 1 16)).1) = (zf_terc V p1ξ p2ξ).1
        rw [hffξ]
        exact ⟨⟨Ma161, hMa161ξ, hVa161ξ, trivial⟩, rfl⟩
  · refine zp_load (pc := 4) hx hb (zd_X11_terms (4, .iload_n 2, 1, 0, []) (List.mem_of_getElem? (i := 2) rfl)) rfl (j := 2) rfl ?_
    refine zp_const (pc := 5) hx hb (zd_X11_terms (5, .iconst 0, 1, 0, []) (List.mem_of_getElem? (i := 3) rfl)) rfl rfl ?_
    refine zp_const (pc := 6) hx hb (zd_X11_terms (6, .sipush 999, 3, 0, []) (List.mem_of_getElem? (i := 4) rfl)) rfl rfl ?_
    refine zp_call (pc := 9) (how := 1) (idx := 107) (mi := 15) (S := []) hx hb hEξ hwξ heffξ hrmξ (zX_iwn hWξ) rfl (j := 10) rfl rfl (by decide +kernel) (zd_X11_terms (9, .invokestatic 107, 3, 0, []) (List.mem_of_getElem? (i := 5) rfl)) [p2ξ, 0, 999] rfl ⟨zp_o0 (by omega) (by omega) (by omega) (by omega), zp_o0 (by omega) (by omega) (by omega) (by omega), zp_o0 (by omega) (by omega) (by omega) (by omega), trivial⟩ (Nat.le_of_ble_eq_true rfl) trivial (fun al halξ rnn162ξ Pn162 Gn162 hextn162ξ hfrn162ξ hokn162ξ hcsn162ξ hpsin162ξ => ?_)
    obtain rfl := List.mem_singleton.mp halξ
    have hrn162ξ := zp_int (hokn162ξ _ rfl).1
    obtain ⟨hPen162ξ, hGen162ξ, htn162ξ⟩ := hpsin162ξ
    rw [hPen162ξ, hGen162ξ]
    clear hextn162ξ hfrn162ξ hcsn162ξ hPen162ξ hGen162ξ
    have htn162ξ : rnn162ξ = 1 ↔ 0 ≤ p2ξ ∧ p2ξ ≤ 999 := htn162ξ
    refine zp_if (pc := 12) (tgt := 40) hx hb (zd_X11_terms (12, .ifCond .eq 28, 3, 0, []) (List.mem_of_getElem? (i := 6) rfl)) rfl (fun (hc163ξ : rnn162ξ = 0) => ?_) (fun (hc163ξ : ¬ (rnn162ξ = 0)) => ?_)
    · have hbf164ξ : ¬ (0 ≤ p2ξ ∧ p2ξ ≤ 999) := fun h9ξ => absurd ((Iff.mpr htn162ξ) h9ξ) (by omega)
      refine zp_load (pc := 40) hx hb (zd_X11_terms (40, .iload_n 1, 1, 0, []) (List.mem_of_getElem? (i := 18) rfl)) rfl (j := 1) rfl ?_
      refine zp_const (pc := 41) hx hb (zd_X11_terms (41, .iconst 1, 1, 0, []) (List.mem_of_getElem? (i := 19) rfl)) rfl rfl ?_
      refine zp_icmp (pc := 42) (tgt := 74) hx hb (zd_X11_terms (42, .if_icmp .ne 32, 3, 0, []) (List.mem_of_getElem? (i := 20) rfl)) rfl (fun (hc166ξ : ¬ p1ξ = 1) => ?_) (fun (hc166ξ : ¬ (¬ p1ξ = 1)) => ?_)
      · refine zp_load (pc := 74) hx hb (zd_X11_terms (74, .iload_n 1, 1, 0, []) (List.mem_of_getElem? (i := 35) rfl)) rfl (j := 1) rfl ?_
        refine zp_const (pc := 75) hx hb (zd_X11_terms (75, .iconst 2, 1, 0, []) (List.mem_of_getElem? (i := 36) rfl)) rfl rfl ?_
        refine zp_icmp (pc := 76) (tgt := 108) hx hb (zd_X11_terms (76, .if_icmp .ne 32, 3, 0, []) (List.mem_of_getElem? (i := 37) rfl)) rfl (fun (hc167ξ : ¬ p1ξ = 2) => ?_) (fun (hc167ξ : ¬ (¬ p1ξ = 2)) => ?_)
        · refine zp_load (pc := 108) hx hb (zd_X11_terms (108, .aload_n 0, 1, 0, []) (List.mem_of_getElem? (i := 52) rfl)) rfl (j := 0) rfl ?_
          refine zp_const (pc := 109) hx hb (zd_X11_terms (109, .iconst (-1), 1, 0, []) (List.mem_of_getElem? (i := 53) rfl)) rfl rfl ?_
          refine zp_call (pc := 110) (how := 0) (idx := 111) (mi := 16) (S := []) hx hb hEξ hwξ heffξ hrmξ (zX_rfs hWξ A Y F V) rfl (j := 11) rfl rfl (by decide +kernel) (zd_X11_terms (110, .invokevirtual 111, 3, 0, []) (List.mem_of_getElem? (i := 54) rfl)) [(A 0 : Int), (-1)] rfl ⟨zp_o2 (zM_P hMξ (hYbξ _ (List.mem_of_getElem? (i := 0) rfl))), zp_o0 (by omega) (by omega) (by omega) (by omega), trivial⟩ (Nat.le_of_ble_eq_true rfl) ⟨⟨M, hMξ, hVξ, trivial⟩, rfl, hYF0ξ⟩ (fun al halξ rna168ξ Pa168 Ga168 hexta168ξ hfra168ξ hoka168ξ hcsa168ξ hpsia168ξ => ?_)
          obtain rfl := List.mem_singleton.mp halξ
          have hra168ξ := zp_int (hoka168ξ _ rfl).1
          obtain ⟨hPea168ξ, ⟨Ma168, hMa168ξ, hVa168ξ, hSba168ξ⟩, hta168ξ⟩ := hpsia168ξ
          subst hPea168ξ
          clear hexta168ξ hfra168ξ hcsa168ξ hoka168ξ
          have hVa168ξ : ∀ o k, zNc o → Ma168 o k = (zf_rfs V (-1)).2 o k := hVa168ξ
          have hta168ξ : rna168ξ = ((zf_rfs V (-1)).1) := hta168ξ
          have hta168ξ := (Eq.symm hta168ξ)
          subst hta168ξ
          refine zp_iret (pc := 113) (n := ((zf_rfs V (-1)).1)) hx hb hEξ hQξ hU5ξ rfl (by decide) (zd_X11_terms (113, .ireturn, 1, 0, []) (List.mem_of_getElem? (i := 55) rfl)) (j := 0) rfl (zp_o0 (by omega) (by omega) (by omega) (by omega)) ?_
          rw [hpsξ]
          refine ⟨rfl, ?_⟩
          have hffξ : zf_terc V p1ξ p2ξ = (((zf_rfs V (-1)).1), (zf_rfs V (-1)).2) := by
            unfold zf_terc
            rw [if_neg hc141ξ, if_neg (fun h9ξ => absurd ((Iff.mpr htn162ξ) h9ξ) (by omega))]
          show zMVc A Y F (zf_terc V p1ξ p2ξ).2 u.1 Ga168 ∧ ((zf_rfs V (-1)).1) = (zf_terc V p1ξ p2ξ).1
          rw [hffξ]
          exact ⟨⟨Ma168, hMa168ξ, hVa168ξ, trivial⟩, rfl⟩
        · exfalso
          omega
      · exfalso
        omega
    · have hbt165ξ := (Iff.mp htn162ξ) (by omega)
      refine zp_load (pc := 15) hx hb (zd_X11_terms (15, .aload_n 0, 1, 0, []) (List.mem_of_getElem? (i := 7) rfl)) rfl (j := 0) rfl ?_
      refine zp_getf (n := (A 1 : Int)) (pc := 16) hx hb hEξ hwξ (zd_X11_terms (16, .getfield 10, 3, 0, []) (List.mem_of_getElem? (i := 8) rfl)) (j := 50) rfl rfl rfl (zM_P hMξ (hYbξ _ (List.mem_of_getElem? (i := 0) rfl))) ((zM_G hMξ (hYbξ _ (List.mem_of_getElem? (i := 0) rfl)) 0).trans (zM_F hMξ (hFbξ _ (List.mem_of_getElem? (i := 0) rfl)))) ?_
      refine zp_getf (n := (A 2 : Int)) (pc := 19) hx hb hEξ hwξ (zd_X11_terms (19, .getfield 135, 3, 0, []) (List.mem_of_getElem? (i := 9) rfl)) (j := 24) rfl rfl rfl (zM_P hMξ (hYbξ _ (List.mem_of_getElem? (i := 1) rfl))) ((zM_G hMξ (hYbξ _ (List.mem_of_getElem? (i := 1) rfl)) 18).trans (zM_F hMξ (hFbξ _ (List.mem_of_getElem? (i := 24) rfl)))) ?_
      refine zp_getf (n := (V 2 6)) (pc := 22) hx hb hEξ hwξ (zd_X11_terms (22, .getfield 178, 3, 0, []) (List.mem_of_getElem? (i := 10) rfl)) (j := 8) rfl rfl rfl (zM_P hMξ (hYbξ _ (List.mem_of_getElem? (i := 2) rfl))) ((zM_G hMξ (hYbξ _ (List.mem_of_getElem? (i := 2) rfl)) 6).trans (hVξ 2 6 (by decide))) ?_
      refine zp_kn (k := 6) (a := (A 2)) hwξ (show zp_fd 2 6 = some (2, 0, 0, (-2147483648), 2147483647) from rfl) rfl (zM_P hMξ (hYbξ _ (List.mem_of_getElem? (i := 2) rfl))) (fun hf169ξ => ?_)
      have hf169bξ := zp_int hf169ξ
      rw [((zM_G hMξ (hYbξ _ (List.mem_of_getElem? (i := 2) rfl)) 6).trans (hVξ 2 6 (by decide)))] at hf169bξ
      clear hf169ξ
      refine zp_store (L' := [(3, 0, (V 2 6)), (0, 2, (A 0 : Int)), (1, 0, p1ξ), (2, 0, p2ξ)]) (pc := 25) hx hb hnLξ (zd_X11_terms (25, .istore_n 3, 1, 0, []) (List.mem_of_getElem? (i := 11) rfl)) rfl rfl rfl ?_
      refine zp_load (pc := 26) hx hb (zd_X11_terms (26, .aload_n 0, 1, 0, []) (List.mem_of_getElem? (i := 12) rfl)) rfl (j := 1) rfl ?_
      refine zp_getf (n := (A 1 : Int)) (pc := 27) hx hb hEξ hwξ (zd_X11_terms (27, .getfield 10, 3, 0, []) (List.mem_of_getElem? (i := 13) rfl)) (j := 50) rfl rfl rfl (zM_P hMξ (hYbξ _ (List.mem_of_getElem? (i := 0) rfl))) ((zM_G hMξ (hYbξ _ (List.mem_of_getElem? (i := 0) rfl)) 0).trans (zM_F hMξ (hFbξ _ (List.mem_of_getElem? (i := 0) rfl)))) ?_
      refine zp_getf (n := (A 2 : Int)) (pc := 30) hx hb hEξ hwξ (zd_X11_terms (30, .getfield 135, 3, 0, []) (List.mem_of_getElem? (i := 14) rfl)) (j := 24) rfl rfl rfl (zM_P hMξ (hYbξ _ (List.mem_of_getElem? (i := 1) rfl))) ((zM_G hMξ (hYbξ _ (List.mem_of_getElem? (i := 1) rfl)) 18).trans (zM_F hMξ (hFbξ _ (List.mem_of_getElem? (i := 24) rfl)))) ?_
      refine zp_load (pc := 33) hx hb (zd_X11_terms (33, .iload_n 2, 1, 0, []) (List.mem_of_getElem? (i := 15) rfl)) rfl (j := 3) rfl ?_
      refine zp_putf (pc := 34) hx hb hEξ hwξ heffξ (zd_X11_terms (34, .putfield 178, 3, 0, []) (List.mem_of_getElem? (i := 16) rfl)) (j := 8) rfl rfl rfl (zM_P hMξ (hYbξ _ (List.mem_of_getElem? (i := 2) rfl))) (zp_o0 (by omega) (by omega) (by omega) (by omega)) ?_
      refine zp_goto (tgt := 114) (pc := 37) hx hb (zd_X11_terms (37, .goto 77, 3, 0, []) (List.mem_of_getElem? (i := 17) rfl)) rfl ?_
      refine zp_load (pc := 114) hx hb (zd_X11_terms (114, .aload_n 0, 1, 0, []) (List.mem_of_getElem? (i := 56) rfl)) rfl (j := 1) rfl ?_
      refine zp_getf (n := (A 3 : Int)) (pc := 115) hx hb hEξ hwξ (zd_X11_terms (115, .getfield 23, 3, 0, []) (List.mem_of_getElem? (i := 57) rfl)) (j := 52) rfl rfl rfl (zM_P hMξ (hYbξ _ (List.mem_of_getElem? (i := 0) rfl))) ((zp_set_ne (Or.inl (zM_ne hMξ (hYbξ _ (List.mem_of_getElem? (i := 0) rfl)) (hYbξ _ (List.mem_of_getElem? (i := 2) rfl)) (by decide)))).trans (((zM_G hMξ (hYbξ _ (List.mem_of_getElem? (i := 0) rfl)) 2).trans (zM_F hMξ (hFbξ _ (List.mem_of_getElem? (i := 2) rfl)))))) ?_
      refine zp_call (pc := 118) (how := 0) (idx := 124) (mi := 19) (S := []) hx hb hEξ hwξ heffξ hrmξ (zX_clr3 hWξ A Y F (zp_set V 2 6 p2ξ)) rfl (j := 13) rfl rfl (by decide +kernel) (zd_X11_terms (118, .invokevirtual 124, 3, 0, []) (List.mem_of_getElem? (i := 58) rfl)) [(A 3 : Int)] rfl ⟨zp_o2 (zM_P hMξ (hYbξ _ (List.mem_of_getElem? (i := 3) rfl))), trivial⟩ (Nat.le_of_ble_eq_true rfl) ⟨⟨(zp_set M 2 6 p2ξ), (zM_set hMξ (hYbξ _ (List.mem_of_getElem? (i := 2) rfl)) (zFx hFxξ (o := 2) (k := 6) (by decide) (by decide))), (zV_set hVξ), trivial⟩, rfl, hYF0ξ⟩ (fun al halξ rna170ξ Pa170 Ga170 hexta170ξ hfra170ξ hoka170ξ hcsa170ξ hpsia170ξ => ?_)
      obtain rfl := List.mem_singleton.mp halξ
      obtain ⟨hPea170ξ, Ma170, hMa170ξ, hVa170ξ, hSba170ξ⟩ := hpsia170ξ
      subst hPea170ξ
      clear hexta170ξ hfra170ξ hcsa170ξ hoka170ξ
      have hVa170ξ : ∀ o k, zNc o → Ma170 o k = (zf_clr3 (zp_set V 2 6 p2ξ)).2 o k := hVa170ξ
      refine zp_load (pc := 121) hx hb (zd_X11_terms (121, .aload_n 0, 1, 0, []) (List.mem_of_getElem? (i := 59) rfl)) rfl (j := 1) rfl ?_
      refine zp_load (pc := 122) hx hb (zd_X11_terms (122, .iload_n 3, 1, 0, []) (List.mem_of_getElem? (i := 60) rfl)) rfl (j := 0) rfl ?_
      refine zp_call (pc := 123) (how := 0) (idx := 118) (mi := 17) (S := []) hx hb hEξ hwξ heffξ hrmξ (zX_ans hWξ A Y F (zf_clr3 (zp_set V 2 6 p2ξ)).2) rfl (j := 12) rfl rfl (by decide +kernel) (zd_X11_terms (123, .invokevirtual 118, 3, 0, []) (List.mem_of_getElem? (i := 61) rfl)) [(A 0 : Int), (V 2 6)] rfl ⟨zp_o2 (zM_P hMa170ξ (hYbξ _ (List.mem_of_getElem? (i := 0) rfl))), zp_o0 (by omega) (by omega) (by omega) (by omega), trivial⟩ (Nat.le_of_ble_eq_true rfl) ⟨⟨Ma170, hMa170ξ, hVa170ξ, trivial⟩, rfl, hYF0ξ⟩ (fun al halξ rna171ξ Pa171 Ga171 hexta171ξ hfra171ξ hoka171ξ hcsa171ξ hpsia171ξ => ?_)
      obtain rfl := List.mem_singleton.mp halξ
      have hra171ξ := zp_int (hoka171ξ _ rfl).1
      obtain ⟨hPea171ξ, ⟨Ma171, hMa171ξ, hVa171ξ, hSba171ξ⟩, hta171ξ⟩ := hpsia171ξ
      subst hPea171ξ
      clear hexta171ξ hfra171ξ hcsa171ξ hoka171ξ
      have hVa171ξ : ∀ o k, zNc o → Ma171 o k = (zf_ans (zf_clr3 (zp_set V 2 6 p2ξ)).2 (V 2 6)).2 o k := hVa171ξ
      have hta171ξ : rna171ξ = ((zf_ans (zf_clr3 (zp_set V 2 6 p2ξ)).2 (V 2 6)).1) := hta171ξ
      have hta171ξ := (Eq.symm hta171ξ)
      subst hta171ξ
      refine zp_iret (pc := 126) (n := ((zf_ans (zf_clr3 (zp_set V 2 6 p2ξ)).2 (V 2 6)).1)) hx hb hEξ hQξ hU5ξ rfl (by decide) (zd_X11_terms (126, .ireturn, 1, 0, []) (List.mem_of_getElem? (i := 62) rfl)) (j := 0) rfl (zp_o0 (by omega) (by omega) (by omega) (by omega)) ?_
      rw [hpsξ]
      refine ⟨rfl, ?_⟩
      have hffξ : zf_terc V p1ξ p2ξ = (((zf_ans (zf_clr3 (zp_set V 2 6 p2ξ)).2 (V 2 6)).1), (zf_ans (zf_clr3 (zp_set V 2 6 p2ξ)).2 (V 2 6)).2) := by
        unfold zf_terc
        rw [if_neg hc141ξ, if_pos ((Iff.mp htn162ξ) (by omega))]
      show zMVc A Y F (zf_terc V p1ξ p2ξ).2 u.1 Ga171 ∧ ((zf_ans (zf_clr3 (zp_set V 2 6 p2ξ)).2 (V 2 6)).1) = (zf_terc V p1ξ p2ξ).1
      rw [hffξ]
      exact ⟨⟨Ma171, hMa171ξ, hVa171ξ, trivial⟩, rfl⟩
noncomputable def zf_sigc (V : Nat → Nat → Int) (p1ξ : Int) (p2ξ : Int) (p3ξ : Int) : Int × (Nat → Nat → Int) := if 0 ≤ p2ξ ∧ p2ξ ≤ 23 then if 0 ≤ p3ξ ∧ p3ξ ≤ 600 then if 0 ≤ p1ξ ∧ p1ξ < (V 1 3) ∧ p1ξ < 10 then if (V 1 9) < 8 then (((zf_ans (zf_ads1 V p1ξ p2ξ p3ξ).2 ((zf_ads1 V p1ξ p2ξ p3ξ).2 1 9)).1), (zf_ans (zf_ads1 V p1ξ p2ξ p3ξ).2 ((zf_ads1 V p1ξ p2ξ p3ξ).2 1 9)).2) else (((zf_rfs V (-5)).1), (zf_rfs V (-5)).2) else (((zf_rfs V (-2)).1), (zf_rfs V (-2)).2) else (((zf_rfs V (-1)).1), (zf_rfs V (-1)).2) else (((zf_rfs V (-1)).1), (zf_rfs V (-1)).2)
noncomputable def zK_sigc : zk_K := (zt_mn 151, prog_1_method_39_code, 4, (Option.some Jvm.ClassFile.FieldType.int), 1, 11, [(2, 12, 0, 0), (0, 0, (-2147483648), 2147483647), (0, 0, (-2147483648), 2147483647), (0, 0, (-2147483648), 2147483647)], [(some (0, 0, (-2147483648), 2147483647), [])], zUC, (2, 180, 0, 0))
noncomputable def zφ_sigc (A : Nat → Nat) (Y : List (Nat × Nat)) (F : List (Nat × Nat × Nat)) (V : Nat → Nat → Int) : (Nat → Option Nat) → (Nat → Nat → Int) → List Int → Prop := fun P G ps => zMVc A Y F V P G ∧ ps.getD 0 0 = (A 0 : Int) ∧ zMc Y F
noncomputable def zψ_sigc (A : Nat → Nat) (Y : List (Nat × Nat)) (F : List (Nat × Nat × Nat)) (V : Nat → Nat → Int) : (Nat → Option Nat) → (Nat → Nat → Int) → List Int → (Nat → Option Nat) → (Nat → Nat → Int) → Int → Prop := fun P G ps P' G' rn => P' = P ∧ zMVc A Y F (zf_sigc V (ps.getD 1 0) (ps.getD 2 0) (ps.getD 3 0)).2 P' G' ∧ rn = (zf_sigc V (ps.getD 1 0) (ps.getD 2 0) (ps.getD 3 0)).1
theorem zX_sigc {l : Launch} {w : zk_W} (hWξ : zh_W w) (A : Nat → Nat) (Y : List (Nat × Nat)) (F : List (Nat × Nat × Nat)) (V : Nat → Nat → Int) : zk_metX l w zt_dv zt_TB zK_sigc (zp_A (zφ_sigc A Y F V)) (zp_B (zψ_sigc A Y F V)) ∧ zk_cok w zt_TB zK_sigc := by
  refine zp_methX (cn := "WoundTown") zp_lkallW hWξ (pl := 1203) rfl (by decide +kernel) (fun p e R s m args below meth c Q u hx hb hEξ hQξ hU5ξ heffξ hnLξ hokξ hφ => ?_)
  have hwξ := hWξ.1
  obtain ⟨p0ξ, p1ξ, p2ξ, p3ξ, hpsξ, tk0, tk1, tk2, tk3⟩ := zp_ps4 hokξ
  have hrmξ : zk_Kr (zk_ev (zt_types, zp_lkW, zt_dv, [], [], zp_lcW, zK_sigc)) = zk_Kr zK_sigc := rfl
  rw [hpsξ] at hφ ⊢
  have hφ : zMVc A Y F V u.1 (zp_n u.2.1) ∧ p0ξ = (A 0 : Int) ∧ zMc Y F := hφ
  obtain ⟨⟨M, hMξ, hVξ, hSbξ⟩, rfl, hYFξ⟩ := hφ
  have hYF0ξ := hYFξ
  obtain ⟨hYbξ, hFbξ, hFxξ, -⟩ := hYFξ
  have hi1ξ := zp_int tk1
  have hi2ξ := zp_int tk2
  have hi3ξ := zp_int tk3
  show zp_J p l e R s m args below meth c Q w u [] 0 [(0, 2, (A 0 : Int)), (1, 0, p1ξ), (2, 0, p2ξ), (3, 0, p3ξ)] [] u.1 (zp_n u.2.1)
  refine zp_load (pc := 0) hx hb (zd_X11_sight (0, .iload_n 2, 1, 0, []) (List.mem_of_getElem? (i := 0) rfl)) rfl (j := 2) rfl ?_
  refine zp_const (pc := 1) hx hb (zd_X11_sight (1, .iconst 0, 1, 0, []) (List.mem_of_getElem? (i := 1) rfl)) rfl rfl ?_
  refine zp_const (pc := 2) hx hb (zd_X11_sight (2, .bipush 23, 2, 0, []) (List.mem_of_getElem? (i := 2) rfl)) rfl rfl ?_
  refine zp_call (pc := 4) (how := 1) (idx := 107) (mi := 15) (S := []) hx hb hEξ hwξ heffξ hrmξ (zX_iwn hWξ) rfl (j := 10) rfl rfl (by decide +kernel) (zd_X11_sight (4, .invokestatic 107, 3, 0, []) (List.mem_of_getElem? (i := 3) rfl)) [p2ξ, 0, 23] rfl ⟨zp_o0 (by omega) (by omega) (by omega) (by omega), zp_o0 (by omega) (by omega) (by omega) (by omega), zp_o0 (by omega) (by omega) (by omega) (by omega), trivial⟩ (Nat.le_of_ble_eq_true rfl) trivial (fun al halξ rnn172ξ Pn172 Gn172 hextn172ξ hfrn172ξ hokn172ξ hcsn172ξ hpsin172ξ => ?_)
  obtain rfl := List.mem_singleton.mp halξ
  have hrn172ξ := zp_int (hokn172ξ _ rfl).1
  obtain ⟨hPen172ξ, hGen172ξ, htn172ξ⟩ := hpsin172ξ
  rw [hPen172ξ, hGen172ξ]
  clear hextn172ξ hfrn172ξ hcsn172ξ hPen172ξ hGen172ξ
  have htn172ξ : rnn172ξ = 1 ↔ 0 ≤ p2ξ ∧ p2ξ ≤ 23 := htn172ξ
  refine zp_if (pc := 7) (tgt := 21) hx hb (zd_X11_sight (7, .ifCond .eq 14, 3, 0, []) (List.mem_of_getElem? (i := 4) rfl)) rfl (fun (hc173ξ : rnn172ξ = 0) => ?_) (fun (hc173ξ : ¬ (rnn172ξ = 0)) => ?_)
  · have hbf174ξ : ¬ (0 ≤ p2ξ ∧ p2ξ ≤ 23) := fun h9ξ => absurd ((Iff.mpr htn172ξ) h9ξ) (by omega)
    refine zp_load (pc := 21) hx hb (zd_X11_sight (21, .aload_n 0, 1, 0, []) (List.mem_of_getElem? (i := 10) rfl)) rfl (j := 0) rfl ?_
    refine zp_const (pc := 22) hx hb (zd_X11_sight (22, .iconst (-1), 1, 0, []) (List.mem_of_getElem? (i := 11) rfl)) rfl rfl ?_
    refine zp_call (pc := 23) (how := 0) (idx := 111) (mi := 16) (S := []) hx hb hEξ hwξ heffξ hrmξ (zX_rfs hWξ A Y F V) rfl (j := 11) rfl rfl (by decide +kernel) (zd_X11_sight (23, .invokevirtual 111, 3, 0, []) (List.mem_of_getElem? (i := 12) rfl)) [(A 0 : Int), (-1)] rfl ⟨zp_o2 (zM_P hMξ (hYbξ _ (List.mem_of_getElem? (i := 0) rfl))), zp_o0 (by omega) (by omega) (by omega) (by omega), trivial⟩ (Nat.le_of_ble_eq_true rfl) ⟨⟨M, hMξ, hVξ, trivial⟩, rfl, hYF0ξ⟩ (fun al halξ rna176ξ Pa176 Ga176 hexta176ξ hfra176ξ hoka176ξ hcsa176ξ hpsia176ξ => ?_)
    obtain rfl := List.mem_singleton.mp halξ
    have hra176ξ := zp_int (hoka176ξ _ rfl).1
    obtain ⟨hPea176ξ, ⟨Ma176, hMa176ξ, hVa176ξ, hSba176ξ⟩, hta176ξ⟩ := hpsia176ξ
    subst hPea176ξ
    clear hexta176ξ hfra176ξ hcsa176ξ hoka176ξ
    have hVa176ξ : ∀ o k, zNc o → Ma176 o k = (zf_rfs V (-1)).2 o k := hVa176ξ
    have hta176ξ : rna176ξ = ((zf_rfs V (-1)).1) := hta176ξ
    have hta176ξ := (Eq.symm hta176ξ)
    subst hta176ξ
    refine zp_iret (pc := 26) (n := ((zf_rfs V (-1)).1)) hx hb hEξ hQξ hU5ξ rfl (by decide) (zd_X11_sight (26, .ireturn, 1, 0, []) (List.mem_of_getElem? (i := 13) rfl)) (j := 0) rfl (zp_o0 (by omega) (by omega) (by omega) (by omega)) ?_
    rw [hpsξ]
    refine ⟨rfl, ?_⟩
    have hffξ : zf_sigc V p1ξ p2ξ p3ξ = (((zf_rfs V (-1)).1), (zf_rfs V (-1)).2) := by
      unfold zf_sigc
      rw [if_neg (fun h9ξ => absurd ((Iff.mpr htn172ξ) h9ξ) (by omega))]
    show zMVc A Y F (zf_sigc V p1ξ p2ξ p3ξ).2 u.1 Ga176 ∧ ((zf_rfs V (-1)).1) = (zf_sigc V p1ξ p2ξ p3ξ).1
    rw [hffξ]
    exact ⟨⟨Ma176, hMa176ξ, hVa176ξ, trivial⟩, rfl⟩
  · have hbt175ξ := (Iff.mp htn172ξ) (by omega)
    refine zp_load (pc := 10) hx hb (zd_X11_sight (10, .iload_n 3, 1, 0, []) (List.mem_of_getElem? (i := 5) rfl)) rfl (j := 3) rfl ?_
    refine zp_const (pc := 11) hx hb (zd_X11_sight (11, .iconst 0, 1, 0, []) (List.mem_of_getElem? (i := 6) rfl)) rfl rfl ?_
    refine zp_const (pc := 12) hx hb (zd_X11_sight (12, .sipush 600, 3, 0, []) (List.mem_of_getElem? (i := 7) rfl)) rfl rfl ?_
    refine zp_call (pc := 15) (how := 1) (idx := 107) (mi := 15) (S := []) hx hb hEξ hwξ heffξ hrmξ (zX_iwn hWξ) rfl (j := 10) rfl rfl (by decide +kernel) (zd_X11_sight (15, .invokestatic 107, 3, 0, []) (List.mem_of_getElem? (i := 8) rfl)) [p3ξ, 0, 600] rfl ⟨zp_o0 (by omega) (by omega) (by omega) (by omega), zp_o0 (by omega) (by omega) (by omega) (by omega), zp_o0 (by omega) (by omega) (by omega) (by omega), trivial⟩ (Nat.le_of_ble_eq_true rfl) trivial (fun al halξ rnn177ξ Pn177 Gn177 hextn177ξ hfrn177ξ hokn177ξ hcsn177ξ hpsin177ξ => ?_)
    obtain rfl := List.mem_singleton.mp halξ
    have hrn177ξ := zp_int (hokn177ξ _ rfl).1
    obtain ⟨hPen177ξ, hGen177ξ, htn177ξ⟩ := hpsin177ξ
    rw [hPen177ξ, hGen177ξ]
    clear hextn177ξ hfrn177ξ hcsn177ξ hPen177ξ hGen177ξ
    have htn177ξ : rnn177ξ = 1 ↔ 0 ≤ p3ξ ∧ p3ξ ≤ 600 := htn177ξ
    refine zp_if (pc := 18) (tgt := 27) hx hb (zd_X11_sight (18, .ifCond .ne 9, 3, 0, []) (List.mem_of_getElem? (i := 9) rfl)) rfl (fun (hc178ξ : ¬ rnn177ξ = 0) => ?_) (fun (hc178ξ : ¬ (¬ rnn177ξ = 0)) => ?_)
    · have hbt179ξ := (Iff.mp htn177ξ) (by omega)
      refine zp_load (pc := 27) hx hb (zd_X11_sight (27, .aload_n 0, 1, 0, []) (List.mem_of_getElem? (i := 14) rfl)) rfl (j := 0) rfl ?_
      refine zp_getf (n := (A 1 : Int)) (pc := 28) hx hb hEξ hwξ (zd_X11_sight (28, .getfield 10, 3, 0, []) (List.mem_of_getElem? (i := 15) rfl)) (j := 50) rfl rfl rfl (zM_P hMξ (hYbξ _ (List.mem_of_getElem? (i := 0) rfl))) ((zM_G hMξ (hYbξ _ (List.mem_of_getElem? (i := 0) rfl)) 0).trans (zM_F hMξ (hFbξ _ (List.mem_of_getElem? (i := 0) rfl)))) ?_
      refine zp_load (pc := 31) hx hb (zd_X11_sight (31, .iload_n 1, 1, 0, []) (List.mem_of_getElem? (i := 16) rfl)) rfl (j := 1) rfl ?_
      refine zp_call (pc := 32) (how := 0) (idx := 150) (mi := 26) (S := []) hx hb hEξ hwξ heffξ hrmξ (zX_hwo1 hWξ A Y F M) rfl (j := 17) rfl rfl (by decide +kernel) (zd_X11_sight (32, .invokevirtual 150, 3, 0, []) (List.mem_of_getElem? (i := 17) rfl)) [(A 1 : Int), p1ξ] rfl ⟨zp_o2 (zM_P hMξ (hYbξ _ (List.mem_of_getElem? (i := 1) rfl))), zp_o0 (by omega) (by omega) (by omega) (by omega), trivial⟩ (Nat.le_of_ble_eq_true rfl) ⟨hMξ, rfl, hYF0ξ⟩ (fun al halξ rni181ξ Pi181 Gi181 hexti181ξ hfri181ξ hoki181ξ hcsi181ξ hpsii181ξ => ?_)
      obtain rfl := List.mem_singleton.mp halξ
      have hri181ξ := zp_int (hoki181ξ _ rfl).1
      obtain ⟨hPei181ξ, hGei181ξ, hti181ξ⟩ := hpsii181ξ
      rw [hPei181ξ, hGei181ξ]
      clear hexti181ξ hfri181ξ hcsi181ξ hPei181ξ hGei181ξ
      have hti181ξ : rni181ξ = 1 ↔ 0 ≤ p1ξ ∧ p1ξ < (V 1 3) ∧ p1ξ < 10 := by
        have h9ξ : rni181ξ = 1 ↔ 0 ≤ p1ξ ∧ p1ξ < M 1 3 ∧ p1ξ < 10 := hti181ξ
        rw [(hVξ 1 3 (by decide))] at h9ξ
        exact h9ξ
      refine zp_if (pc := 35) (tgt := 45) hx hb (zd_X11_sight (35, .ifCond .ne 10, 3, 0, []) (List.mem_of_getElem? (i := 18) rfl)) rfl (fun (hc182ξ : ¬ rni181ξ = 0) => ?_) (fun (hc182ξ : ¬ (¬ rni181ξ = 0)) => ?_)
      · have hbt183ξ := (Iff.mp hti181ξ) (by omega)
        refine zp_load (pc := 45) hx hb (zd_X11_sight (45, .aload_n 0, 1, 0, []) (List.mem_of_getElem? (i := 23) rfl)) rfl (j := 0) rfl ?_
        refine zp_getf (n := (A 1 : Int)) (pc := 46) hx hb hEξ hwξ (zd_X11_sight (46, .getfield 10, 3, 0, []) (List.mem_of_getElem? (i := 24) rfl)) (j := 50) rfl rfl rfl (zM_P hMξ (hYbξ _ (List.mem_of_getElem? (i := 0) rfl))) ((zM_G hMξ (hYbξ _ (List.mem_of_getElem? (i := 0) rfl)) 0).trans (zM_F hMξ (hFbξ _ (List.mem_of_getElem? (i := 0) rfl)))) ?_
        refine zp_getf (n := (V 1 9)) (pc := 49) hx hb hEξ hwξ (zd_X11_sight (49, .getfield 396, 3, 0, []) (List.mem_of_getElem? (i := 25) rfl)) (j := 18) rfl rfl rfl (zM_P hMξ (hYbξ _ (List.mem_of_getElem? (i := 1) rfl))) ((zM_G hMξ (hYbξ _ (List.mem_of_getElem? (i := 1) rfl)) 9).trans (hVξ 1 9 (by decide))) ?_
        refine zp_kn (k := 9) (a := (A 1)) hwξ (show zp_fd 10 9 = some (9, 0, 0, 0, 8) from rfl) rfl (zM_P hMξ (hYbξ _ (List.mem_of_getElem? (i := 1) rfl))) (fun hf185ξ => ?_)
        have hf185bξ := zp_int hf185ξ
        rw [((zM_G hMξ (hYbξ _ (List.mem_of_getElem? (i := 1) rfl)) 9).trans (hVξ 1 9 (by decide)))] at hf185bξ
        clear hf185ξ
        refine zp_const (pc := 52) hx hb (zd_X11_sight (52, .bipush 8, 2, 0, []) (List.mem_of_getElem? (i := 26) rfl)) rfl rfl ?_
        refine zp_icmp (pc := 54) (tgt := 64) hx hb (zd_X11_sight (54, .if_icmp .lt 10, 3, 0, []) (List.mem_of_getElem? (i := 27) rfl)) rfl (fun (hc186ξ : (V 1 9) < 8) => ?_) (fun (hc186ξ : ¬ ((V 1 9) < 8)) => ?_)
        · refine zp_load (pc := 64) hx hb (zd_X11_sight (64, .aload_n 0, 1, 0, []) (List.mem_of_getElem? (i := 32) rfl)) rfl (j := 0) rfl ?_
          refine zp_getf (n := (A 1 : Int)) (pc := 65) hx hb hEξ hwξ (zd_X11_sight (65, .getfield 10, 3, 0, []) (List.mem_of_getElem? (i := 33) rfl)) (j := 50) rfl rfl rfl (zM_P hMξ (hYbξ _ (List.mem_of_getElem? (i := 0) rfl))) ((zM_G hMξ (hYbξ _ (List.mem_of_getElem? (i := 0) rfl)) 0).trans (zM_F hMξ (hFbξ _ (List.mem_of_getElem? (i := 0) rfl)))) ?_
          refine zp_load (pc := 68) hx hb (zd_X11_sight (68, .iload_n 1, 1, 0, []) (List.mem_of_getElem? (i := 34) rfl)) rfl (j := 1) rfl ?_
          refine zp_load (pc := 69) hx hb (zd_X11_sight (69, .iload_n 2, 1, 0, []) (List.mem_of_getElem? (i := 35) rfl)) rfl (j := 2) rfl ?_
          refine zp_load (pc := 70) hx hb (zd_X11_sight (70, .iload_n 3, 1, 0, []) (List.mem_of_getElem? (i := 36) rfl)) rfl (j := 3) rfl ?_
          refine zp_call (pc := 71) (how := 0) (idx := 399) (mi := 152) (S := []) hx hb hEξ hwξ heffξ hrmξ (zX_ads1 hWξ A Y F V) rfl (j := 56) rfl rfl (by decide +kernel) (zd_X11_sight (71, .invokevirtual 399, 3, 0, []) (List.mem_of_getElem? (i := 37) rfl)) [(A 1 : Int), p1ξ, p2ξ, p3ξ] rfl ⟨zp_o2 (zM_P hMξ (hYbξ _ (List.mem_of_getElem? (i := 1) rfl))), zp_o0 (by omega) (by omega) (by omega) (by omega), zp_o0 (by omega) (by omega) (by omega) (by omega), zp_o0 (by omega) (by omega) (by omega) (by omega), trivial⟩ (Nat.le_of_ble_eq_true rfl) ⟨⟨M, hMξ, hVξ, trivial⟩, rfl, hYF0ξ⟩ (fun al halξ rna187ξ Pa187 Ga187 hexta187ξ hfra187ξ hoka187ξ hcsa187ξ hpsia187ξ => ?_)
          obtain rfl := List.mem_singleton.mp halξ
          obtain ⟨hPea187ξ, Ma187, hMa187ξ, hVa187ξ, hSba187ξ⟩ := hpsia187ξ
          subst hPea187ξ
          clear hexta187ξ hfra187ξ hcsa187ξ hoka187ξ
          have hVa187ξ : ∀ o k, zNc o → Ma187 o k = (zf_ads1 V p1ξ p2ξ p3ξ).2 o k := hVa187ξ
          refine zp_load (pc := 74) hx hb (zd_X11_sight (74, .aload_n 0, 1, 0, []) (List.mem_of_getElem? (i := 38) rfl)) rfl (j := 0) rfl ?_
          refine zp_load (pc := 75) hx hb (zd_X11_sight (75, .aload_n 0, 1, 0, []) (List.mem_of_getElem? (i := 39) rfl)) rfl (j := 0) rfl ?_
          refine zp_getf (n := (A 1 : Int)) (pc := 76) hx hb hEξ hwξ (zd_X11_sight (76, .getfield 10, 3, 0, []) (List.mem_of_getElem? (i := 40) rfl)) (j := 50) rfl rfl rfl (zM_P hMa187ξ (hYbξ _ (List.mem_of_getElem? (i := 0) rfl))) ((zM_G hMa187ξ (hYbξ _ (List.mem_of_getElem? (i := 0) rfl)) 0).trans (zM_F hMa187ξ (hFbξ _ (List.mem_of_getElem? (i := 0) rfl)))) ?_
          refine zp_getf (n := ((zf_ads1 V p1ξ p2ξ p3ξ).2 1 9)) (pc := 79) hx hb hEξ hwξ (zd_X11_sight (79, .getfield 396, 3, 0, []) (List.mem_of_getElem? (i := 41) rfl)) (j := 18) rfl rfl rfl (zM_P hMa187ξ (hYbξ _ (List.mem_of_getElem? (i := 1) rfl))) ((zM_G hMa187ξ (hYbξ _ (List.mem_of_getElem? (i := 1) rfl)) 9).trans (hVa187ξ 1 9 (by decide))) ?_
          refine zp_kn (k := 9) (a := (A 1)) hwξ (show zp_fd 10 9 = some (9, 0, 0, 0, 8) from rfl) rfl (zM_P hMa187ξ (hYbξ _ (List.mem_of_getElem? (i := 1) rfl))) (fun hf188ξ => ?_)
          have hf188bξ := zp_int hf188ξ
          rw [((zM_G hMa187ξ (hYbξ _ (List.mem_of_getElem? (i := 1) rfl)) 9).trans (hVa187ξ 1 9 (by decide)))] at hf188bξ
          clear hf188ξ
          refine zp_call (pc := 82) (how := 0) (idx := 118) (mi := 17) (S := []) hx hb hEξ hwξ heffξ hrmξ (zX_ans hWξ A Y F (zf_ads1 V p1ξ p2ξ p3ξ).2) rfl (j := 12) rfl rfl (by decide +kernel) (zd_X11_sight (82, .invokevirtual 118, 3, 0, []) (List.mem_of_getElem? (i := 42) rfl)) [(A 0 : Int), ((zf_ads1 V p1ξ p2ξ p3ξ).2 1 9)] rfl ⟨zp_o2 (zM_P hMa187ξ (hYbξ _ (List.mem_of_getElem? (i := 0) rfl))), zp_o0 (by omega) (by omega) (by omega) (by omega), trivial⟩ (Nat.le_of_ble_eq_true rfl) ⟨⟨Ma187, hMa187ξ, hVa187ξ, trivial⟩, rfl, hYF0ξ⟩ (fun al halξ rna189ξ Pa189 Ga189 hexta189ξ hfra189ξ hoka189ξ hcsa189ξ hpsia189ξ => ?_)
          obtain rfl := List.mem_singleton.mp halξ
          have hra189ξ := zp_int (hoka189ξ _ rfl).1
          obtain ⟨hPea189ξ, ⟨Ma189, hMa189ξ, hVa189ξ, hSba189ξ⟩, hta189ξ⟩ := hpsia189ξ
          subst hPea189ξ
          clear hexta189ξ hfra189ξ hcsa189ξ hoka189ξ
          have hVa189ξ : ∀ o k, zNc o → Ma189 o k = (zf_ans (zf_ads1 V p1ξ p2ξ p3ξ).2 ((zf_ads1 V p1ξ p2ξ p3ξ).2 1 9)).2 o k := hVa189ξ
          have hta189ξ : rna189ξ = ((zf_ans (zf_ads1 V p1ξ p2ξ p3ξ).2 ((zf_ads1 V p1ξ p2ξ p3ξ).2 1 9)).1) := hta189ξ
          have hta189ξ := (Eq.symm hta189ξ)
          subst hta189ξ
          refine zp_iret (pc := 85) (n := ((zf_ans (zf_ads1 V p1ξ p2ξ p3ξ).2 ((zf_ads1 V p1ξ p2ξ p3ξ).2 1 9)).1)) hx hb hEξ hQξ hU5ξ rfl (by decide) (zd_X11_sight (85, .ireturn, 1, 0, []) (List.mem_of_getElem? (i := 43) rfl)) (j := 0) rfl (zp_o0 (by omega) (by omega) (by omega) (by omega)) ?_
          rw [hpsξ]
          refine ⟨rfl, ?_⟩
          have hffξ : zf_sigc V p1ξ p2ξ p3ξ = (((zf_ans (zf_ads1 V p1ξ p2ξ p3ξ).2 ((zf_ads1 V p1ξ p2ξ p3ξ).2 1 9)).1), (zf_ans (zf_ads1 V p1ξ p2ξ p3ξ).2 ((zf_ads1 V p1ξ p2ξ p3ξ).2 1 9)).2) := by
            unfold zf_sigc
            rw [if_pos ((Iff.mp htn172ξ) (by omega)), if_pos ((Iff.mp htn177ξ) (by omega)), if_pos ((Iff.mp hti181ξ) (by omega)), if_pos hc186ξ]
          show zMVc A Y F (zf_sigc V p1ξ p2ξ p3ξ).2 u.1 Ga189 ∧ ((zf_ans (zf_ads1 V p1ξ p2ξ p3ξ).2 ((zf_ads1 V p1ξ p2ξ p3ξ).2 1 9)).1) = (zf_sigc V p1ξ p2ξ p3ξ).1
          rw [hffξ]
          exact ⟨⟨Ma189, hMa189ξ, hVa189ξ, trivial⟩, rfl⟩
        · refine zp_load (pc := 57) hx hb (zd_X11_sight (57, .aload_n 0, 1, 0, []) (List.mem_of_getElem? (i := 28) rfl)) rfl (j := 0) rfl ?_
          refine zp_const (pc := 58) hx hb (zd_X11_sight (58, .bipush (-5), 2, 0, []) (List.mem_of_getElem? (i := 29) rfl)) rfl rfl ?_
          refine zp_call (pc := 60) (how := 0) (idx := 111) (mi := 16) (S := []) hx hb hEξ hwξ heffξ hrmξ (zX_rfs hWξ A Y F V) rfl (j := 11) rfl rfl (by decide +kernel) (zd_X11_sight (60, .invokevirtual 111, 3, 0, []) (List.mem_of_getElem? (i := 30) rfl)) [(A 0 : Int), (-5)] rfl ⟨zp_o2 (zM_P hMξ (hYbξ _ (List.mem_of_getElem? (i := 0) rfl))), zp_o0 (by omega) (by omega) (by omega) (by omega), trivial⟩ (Nat.le_of_ble_eq_true rfl) ⟨⟨M, hMξ, hVξ, trivial⟩, rfl, hYF0ξ⟩ (fun al halξ rna190ξ Pa190 Ga190 hexta190ξ hfra190ξ hoka190ξ hcsa190ξ hpsia190ξ => ?_)
          obtain rfl := List.mem_singleton.mp halξ
          have hra190ξ := zp_int (hoka190ξ _ rfl).1
          obtain ⟨hPea190ξ, ⟨Ma190, hMa190ξ, hVa190ξ, hSba190ξ⟩, hta190ξ⟩ := hpsia190ξ
          subst hPea190ξ
          clear hexta190ξ hfra190ξ hcsa190ξ hoka190ξ
          have hVa190ξ : ∀ o k, zNc o → Ma190 o k = (zf_rfs V (-5)).2 o k := hVa190ξ
          have hta190ξ : rna190ξ = ((zf_rfs V (-5)).1) := hta190ξ
          have hta190ξ := (Eq.symm hta190ξ)
          subst hta190ξ
          refine zp_iret (pc := 63) (n := ((zf_rfs V (-5)).1)) hx hb hEξ hQξ hU5ξ rfl (by decide) (zd_X11_sight (63, .ireturn, 1, 0, []) (List.mem_of_getElem? (i := 31) rfl)) (j := 0) rfl (zp_o0 (by omega) (by omega) (by omega) (by omega)) ?_
          rw [hpsξ]
          refine ⟨rfl, ?_⟩
          have hffξ : zf_sigc V p1ξ p2ξ p3ξ = (((zf_rfs V (-5)).1), (zf_rfs V (-5)).2) := by
            unfold zf_sigc
            rw [if_pos ((Iff.mp htn172ξ) (by omega)), if_pos ((Iff.mp htn177ξ) (by omega)), if_pos ((Iff.mp hti181ξ) (by omega)), if_neg hc186ξ]
          show zMVc A Y F (zf_sigc V p1ξ p2ξ p3ξ).2 u.1 Ga190 ∧ ((zf_rfs V (-5)).1) = (zf_sigc V p1ξ p2ξ p3ξ).1
          rw [hffξ]
          exact ⟨⟨Ma190, hMa190ξ, hVa190ξ, trivial⟩, rfl⟩
      · have hbf184ξ : ¬ (0 ≤ p1ξ ∧ p1ξ < (V 1 3) ∧ p1ξ < 10) := fun h9ξ => absurd ((Iff.mpr hti181ξ) h9ξ) (by omega)
        refine zp_load (pc := 38) hx hb (zd_X11_sight (38, .aload_n 0, 1, 0, []) (List.mem_of_getElem? (i := 19) rfl)) rfl (j := 0) rfl ?_
        refine zp_const (pc := 39) hx hb (zd_X11_sight (39, .bipush (-2), 2, 0, []) (List.mem_of_getElem? (i := 20) rfl)) rfl rfl ?_
        refine zp_call (pc := 41) (how := 0) (idx := 111) (mi := 16) (S := []) hx hb hEξ hwξ heffξ hrmξ (zX_rfs hWξ A Y F V) rfl (j := 11) rfl rfl (by decide +kernel) (zd_X11_sight (41, .invokevirtual 111, 3, 0, []) (List.mem_of_getElem? (i := 21) rfl)) [(A 0 : Int), (-2)] rfl ⟨zp_o2 (zM_P hMξ (hYbξ _ (List.mem_of_getElem? (i := 0) rfl))), zp_o0 (by omega) (by omega) (by omega) (by omega), trivial⟩ (Nat.le_of_ble_eq_true rfl) ⟨⟨M, hMξ, hVξ, trivial⟩, rfl, hYF0ξ⟩ (fun al halξ rna191ξ Pa191 Ga191 hexta191ξ hfra191ξ hoka191ξ hcsa191ξ hpsia191ξ => ?_)
        obtain rfl := List.mem_singleton.mp halξ
        have hra191ξ := zp_int (hoka191ξ _ rfl).1
        obtain ⟨hPea191ξ, ⟨Ma191, hMa191ξ, hVa191ξ, hSba191ξ⟩, hta191ξ⟩ := hpsia191ξ
        subst hPea191ξ
        clear hexta191ξ hfra191ξ hcsa191ξ hoka191ξ
        have hVa191ξ : ∀ o k, zNc o → Ma191 o k = (zf_rfs V (-2)).2 o k := hVa191ξ
        have hta191ξ : rna191ξ = ((zf_rfs V (-2)).1) := hta191ξ
        have hta191ξ := (Eq.symm hta191ξ)
        subst hta191ξ
        refine zp_iret (pc := 44) (n := ((zf_rfs V (-2)).1)) hx hb hEξ hQξ hU5ξ rfl (by decide) (zd_X11_sight (44, .ireturn, 1, 0, []) (List.mem_of_getElem? (i := 22) rfl)) (j := 0) rfl (zp_o0 (by omega) (by omega) (by omega) (by omega)) ?_
        rw [hpsξ]
        refine ⟨rfl, ?_⟩
        have hffξ : zf_sigc V p1ξ p2ξ p3ξ = (((zf_rfs V (-2)).1), (zf_rfs V (-2)).2) := by
          unfold zf_sigc
          rw [if_pos ((Iff.mp htn172ξ) (by omega)), if_pos ((Iff.mp htn177ξ) (by omega)), if_neg (fun h9ξ => absurd ((Iff.mpr hti181ξ) h9ξ) (by omega))]
        show zMVc A Y F (zf_sigc V p1ξ p2ξ p3ξ).2 u.1 Ga191 ∧ ((zf_rfs V (-2)).1) = (zf_sigc V p1ξ p2ξ p3ξ).1
        rw [hffξ]
        exact ⟨⟨Ma191, hMa191ξ, hVa191ξ, trivial⟩, rfl⟩
    · have hbf180ξ : ¬ (0 ≤ p3ξ ∧ p3ξ ≤ 600) := fun h9ξ => absurd ((Iff.mpr htn177ξ) h9ξ) (by omega)
      refine zp_load (pc := 21) hx hb (zd_X11_sight (21, .aload_n 0, 1, 0, []) (List.mem_of_getElem? (i := 10) rfl)) rfl (j := 0) rfl ?_
      refine zp_const (pc := 22) hx hb (zd_X11_sight (22, .iconst (-1), 1, 0, []) (List.mem_of_getElem? (i := 11) rfl)) rfl rfl ?_
      refine zp_call (pc := 23) (how := 0) (idx := 111) (mi := 16) (S := []) hx hb hEξ hwξ heffξ hrmξ (zX_rfs hWξ A Y F V) rfl (j := 11) rfl rfl (by decide +kernel) (zd_X11_sight (23, .invokevirtual 111, 3, 0, []) (List.mem_of_getElem? (i := 12) rfl)) [(A 0 : Int), (-1)] rfl ⟨zp_o2 (zM_P hMξ (hYbξ _ (List.mem_of_getElem? (i := 0) rfl))), zp_o0 (by omega) (by omega) (by omega) (by omega), trivial⟩ (Nat.le_of_ble_eq_true rfl) ⟨⟨M, hMξ, hVξ, trivial⟩, rfl, hYF0ξ⟩ (fun al halξ rna192ξ Pa192 Ga192 hexta192ξ hfra192ξ hoka192ξ hcsa192ξ hpsia192ξ => ?_)
      obtain rfl := List.mem_singleton.mp halξ
      have hra192ξ := zp_int (hoka192ξ _ rfl).1
      obtain ⟨hPea192ξ, ⟨Ma192, hMa192ξ, hVa192ξ, hSba192ξ⟩, hta192ξ⟩ := hpsia192ξ
      subst hPea192ξ
      clear hexta192ξ hfra192ξ hcsa192ξ hoka192ξ
      have hVa192ξ : ∀ o k, zNc o → Ma192 o k = (zf_rfs V (-1)).2 o k := hVa192ξ
      have hta192ξ : rna192ξ = ((zf_rfs V (-1)).1) := hta192ξ
      have hta192ξ := (Eq.symm hta192ξ)
      subst hta192ξ
      refine zp_iret (pc := 26) (n := ((zf_rfs V (-1)).1)) hx hb hEξ hQξ hU5ξ rfl (by decide) (zd_X11_sight (26, .ireturn, 1, 0, []) (List.mem_of_getElem? (i := 13) rfl)) (j := 0) rfl (zp_o0 (by omega) (by omega) (by omega) (by omega)) ?_
      rw [hpsξ]
      refine ⟨rfl, ?_⟩
      have hffξ : zf_sigc V p1ξ p2ξ p3ξ = (((zf_rfs V (-1)).1), (zf_rfs V (-1)).2) := by
        unfold zf_sigc
        rw [if_pos ((Iff.mp htn172ξ) (by omega)), if_neg (fun h9ξ => absurd ((Iff.mpr htn177ξ) h9ξ) (by omega))]
      show zMVc A Y F (zf_sigc V p1ξ p2ξ p3ξ).2 u.1 Ga192 ∧ ((zf_rfs V (-1)).1) = (zf_sigc V p1ξ p2ξ p3ξ).1
      rw [hffξ]
      exact ⟨⟨Ma192, hMa192ξ, hVa192ξ, trivial⟩, rfl⟩
noncomputable def zf_fgtc (V : Nat → Nat → Int) : Int × (Nat → Nat → Int) := ((V 1 9), (zp_set V 1 9 0))
noncomputable def zK_fgtc : zk_K := (zt_mn 153, prog_1_method_40_code, 2, (Option.some Jvm.ClassFile.FieldType.int), 1, 11, [(2, 12, 0, 0)], [(some (0, 0, (-2147483648), 2147483647), [])], zUC, (2, 180, 0, 0))
noncomputable def zφ_fgtc (A : Nat → Nat) (Y : List (Nat × Nat)) (F : List (Nat × Nat × Nat)) (V : Nat → Nat → Int) : (Nat → Option Nat) → (Nat → Nat → Int) → List Int → Prop := fun P G ps => zMVc A Y F V P G ∧ ps.getD 0 0 = (A 0 : Int) ∧ zMc Y F
noncomputable def zψ_fgtc (A : Nat → Nat) (Y : List (Nat × Nat)) (F : List (Nat × Nat × Nat)) (V : Nat → Nat → Int) : (Nat → Option Nat) → (Nat → Nat → Int) → List Int → (Nat → Option Nat) → (Nat → Nat → Int) → Int → Prop := fun P G ps P' G' rn => P' = P ∧ zMVc A Y F (zf_fgtc V).2 P' G' ∧ rn = (zf_fgtc V).1
theorem zX_fgtc {l : Launch} {w : zk_W} (hWξ : zh_W w) (A : Nat → Nat) (Y : List (Nat × Nat)) (F : List (Nat × Nat × Nat)) (V : Nat → Nat → Int) : zk_metX l w zt_dv zt_TB zK_fgtc (zp_A (zφ_fgtc A Y F V)) (zp_B (zψ_fgtc A Y F V)) ∧ zk_cok w zt_TB zK_fgtc := by
  refine zp_methX (cn := "WoundTown") zp_lkallW hWξ (pl := 1211) rfl (by decide +kernel) (fun p e R s m args below meth c Q u hx hb hEξ hQξ hU5ξ heffξ hnLξ hokξ hφ => ?_)
  have hwξ := hWξ.1
  obtain ⟨p0ξ, hpsξ, tk0⟩ := zp_ps1 hokξ
  have hrmξ : zk_Kr (zk_ev (zt_types, zp_lkW, zt_dv, [], [], zp_lcW, zK_fgtc)) = zk_Kr zK_fgtc := rfl
  rw [hpsξ] at hφ ⊢
  have hφ : zMVc A Y F V u.1 (zp_n u.2.1) ∧ p0ξ = (A 0 : Int) ∧ zMc Y F := hφ
  obtain ⟨⟨M, hMξ, hVξ, hSbξ⟩, rfl, hYFξ⟩ := hφ
  have hYF0ξ := hYFξ
  obtain ⟨hYbξ, hFbξ, hFxξ, -⟩ := hYFξ
  show zp_J p l e R s m args below meth c Q w u [] 0 [(0, 2, (A 0 : Int))] [] u.1 (zp_n u.2.1)
  refine zp_load (pc := 0) hx hb (zd_X11_forget (0, .aload_n 0, 1, 0, []) (List.mem_of_getElem? (i := 0) rfl)) rfl (j := 0) rfl ?_
  refine zp_getf (n := (A 1 : Int)) (pc := 1) hx hb hEξ hwξ (zd_X11_forget (1, .getfield 10, 3, 0, []) (List.mem_of_getElem? (i := 1) rfl)) (j := 50) rfl rfl rfl (zM_P hMξ (hYbξ _ (List.mem_of_getElem? (i := 0) rfl))) ((zM_G hMξ (hYbξ _ (List.mem_of_getElem? (i := 0) rfl)) 0).trans (zM_F hMξ (hFbξ _ (List.mem_of_getElem? (i := 0) rfl)))) ?_
  refine zp_getf (n := (V 1 9)) (pc := 4) hx hb hEξ hwξ (zd_X11_forget (4, .getfield 396, 3, 0, []) (List.mem_of_getElem? (i := 2) rfl)) (j := 18) rfl rfl rfl (zM_P hMξ (hYbξ _ (List.mem_of_getElem? (i := 1) rfl))) ((zM_G hMξ (hYbξ _ (List.mem_of_getElem? (i := 1) rfl)) 9).trans (hVξ 1 9 (by decide))) ?_
  refine zp_kn (k := 9) (a := (A 1)) hwξ (show zp_fd 10 9 = some (9, 0, 0, 0, 8) from rfl) rfl (zM_P hMξ (hYbξ _ (List.mem_of_getElem? (i := 1) rfl))) (fun hf193ξ => ?_)
  have hf193bξ := zp_int hf193ξ
  rw [((zM_G hMξ (hYbξ _ (List.mem_of_getElem? (i := 1) rfl)) 9).trans (hVξ 1 9 (by decide)))] at hf193bξ
  clear hf193ξ
  refine zp_store (L' := [(1, 0, (V 1 9)), (0, 2, (A 0 : Int))]) (pc := 7) hx hb hnLξ (zd_X11_forget (7, .istore_n 1, 1, 0, []) (List.mem_of_getElem? (i := 3) rfl)) rfl rfl rfl ?_
  refine zp_load (pc := 8) hx hb (zd_X11_forget (8, .aload_n 0, 1, 0, []) (List.mem_of_getElem? (i := 4) rfl)) rfl (j := 1) rfl ?_
  refine zp_getf (n := (A 1 : Int)) (pc := 9) hx hb hEξ hwξ (zd_X11_forget (9, .getfield 10, 3, 0, []) (List.mem_of_getElem? (i := 5) rfl)) (j := 50) rfl rfl rfl (zM_P hMξ (hYbξ _ (List.mem_of_getElem? (i := 0) rfl))) ((zM_G hMξ (hYbξ _ (List.mem_of_getElem? (i := 0) rfl)) 0).trans (zM_F hMξ (hFbξ _ (List.mem_of_getElem? (i := 0) rfl)))) ?_
  refine zp_const (pc := 12) hx hb (zd_X11_forget (12, .iconst 0, 1, 0, []) (List.mem_of_getElem? (i := 6) rfl)) rfl rfl ?_
  refine zp_putf (pc := 13) hx hb hEξ hwξ heffξ (zd_X11_forget (13, .putfield 396, 3, 0, []) (List.mem_of_getElem? (i := 7) rfl)) (j := 18) rfl rfl rfl (zM_P hMξ (hYbξ _ (List.mem_of_getElem? (i := 1) rfl))) (zp_o0 (by decide) (by decide) (by decide) (by decide)) ?_
  refine zp_load (pc := 16) hx hb (zd_X11_forget (16, .iload_n 1, 1, 0, []) (List.mem_of_getElem? (i := 8) rfl)) rfl (j := 0) rfl ?_
  refine zp_iret (pc := 17) (n := (V 1 9)) hx hb hEξ hQξ hU5ξ rfl (by decide) (zd_X11_forget (17, .ireturn, 1, 0, []) (List.mem_of_getElem? (i := 9) rfl)) (j := 0) rfl (zp_o0 (by omega) (by omega) (by omega) (by omega)) ?_
  rw [hpsξ]
  refine ⟨rfl, ?_⟩
  have hffξ : zf_fgtc V = ((V 1 9), (zp_set V 1 9 0)) := rfl
  show zMVc A Y F (zf_fgtc V).2 u.1 (zp_set (zp_n u.2.1) (A 1) 9 0) ∧ (V 1 9) = (zf_fgtc V).1
  rw [hffξ]
  exact ⟨⟨(zp_set M 1 9 0), (zM_set hMξ (hYbξ _ (List.mem_of_getElem? (i := 1) rfl)) (zFx hFxξ (o := 1) (k := 9) (by decide) (by decide))), (zV_set hVξ), trivial⟩, rfl⟩
noncomputable def zf_atc (V : Nat → Nat → Int) (p1ξ : Int) (p2ξ : Int) : Int × (Nat → Nat → Int) := if 0 ≤ p1ξ ∧ p1ξ < (V 1 3) ∧ p1ξ < 10 then if p2ξ = 0 then ((V 32 (2000 + p1ξ.toNat)), V) else if p2ξ = 1 then ((V 33 (2000 + p1ξ.toNat)), V) else if p2ξ = 2 then ((V 34 (2000 + p1ξ.toNat)), V) else if p2ξ = 3 then ((V 35 (2000 + p1ξ.toNat)), V) else if p2ξ = 4 then ((V 36 (2000 + p1ξ.toNat)), V) else if p2ξ = 5 then ((V 52 (2000 + p1ξ.toNat)), V) else ((-1), V) else ((-1), V)
noncomputable def zK_atc : zk_K := (zt_mn 29, prog_1_method_7_code, 3, (Option.some Jvm.ClassFile.FieldType.int), 1, 11, [(2, 12, 0, 0), (0, 0, (-2147483648), 2147483647), (0, 0, (-2147483648), 2147483647)], [(some (0, 0, (-2147483648), 2147483647), [])], zUC, (2, 180, 0, 0))
noncomputable def zφ_atc (A : Nat → Nat) (Y : List (Nat × Nat)) (F : List (Nat × Nat × Nat)) (V : Nat → Nat → Int) : (Nat → Option Nat) → (Nat → Nat → Int) → List Int → Prop := fun P G ps => zMVc A Y F V P G ∧ ps.getD 0 0 = (A 0 : Int) ∧ zMc Y F
noncomputable def zψ_atc (A : Nat → Nat) (Y : List (Nat × Nat)) (F : List (Nat × Nat × Nat)) (V : Nat → Nat → Int) : (Nat → Option Nat) → (Nat → Nat → Int) → List Int → (Nat → Option Nat) → (Nat → Nat → Int) → Int → Prop := fun P G ps P' G' rn => P' = P ∧ zMVc A Y F (zf_atc V (ps.getD 1 0) (ps.getD 2 0)).2 P' G' ∧ rn = (zf_atc V (ps.getD 1 0) (ps.getD 2 0)).1
theorem zX_atc {l : Launch} {w : zk_W} (hWξ : zh_W w) (A : Nat → Nat) (Y : List (Nat × Nat)) (F : List (Nat × Nat × Nat)) (V : Nat → Nat → Int) : zk_metX l w zt_dv zt_TB zK_atc (zp_A (zφ_atc A Y F V)) (zp_B (zψ_atc A Y F V)) ∧ zk_cok w zt_TB zK_atc := by
  refine zp_methX (cn := "WoundTown") zp_lkallW hWξ (pl := 664) rfl (by decide +kernel) (fun p e R s m args below meth c Q u hx hb hEξ hQξ hU5ξ heffξ hnLξ hokξ hφ => ?_)
  have hwξ := hWξ.1
  obtain ⟨p0ξ, p1ξ, p2ξ, hpsξ, tk0, tk1, tk2⟩ := zp_ps3 hokξ
  have hrmξ : zk_Kr (zk_ev (zt_types, zp_lkW, zt_dv, [], [], zp_lcW, zK_atc)) = zk_Kr zK_atc := rfl
  rw [hpsξ] at hφ ⊢
  have hφ : zMVc A Y F V u.1 (zp_n u.2.1) ∧ p0ξ = (A 0 : Int) ∧ zMc Y F := hφ
  obtain ⟨⟨M, hMξ, hVξ, hSbξ⟩, rfl, hYFξ⟩ := hφ
  have hYF0ξ := hYFξ
  obtain ⟨hYbξ, hFbξ, hFxξ, -⟩ := hYFξ
  have hi1ξ := zp_int tk1
  have hi2ξ := zp_int tk2
  show zp_J p l e R s m args below meth c Q w u [] 0 [(0, 2, (A 0 : Int)), (1, 0, p1ξ), (2, 0, p2ξ)] [] u.1 (zp_n u.2.1)
  refine zp_load (pc := 0) hx hb (zd_X11_at (0, .aload_n 0, 1, 0, []) (List.mem_of_getElem? (i := 0) rfl)) rfl (j := 0) rfl ?_
  refine zp_getf (n := (A 1 : Int)) (pc := 1) hx hb hEξ hwξ (zd_X11_at (1, .getfield 10, 3, 0, []) (List.mem_of_getElem? (i := 1) rfl)) (j := 50) rfl rfl rfl (zM_P hMξ (hYbξ _ (List.mem_of_getElem? (i := 0) rfl))) ((zM_G hMξ (hYbξ _ (List.mem_of_getElem? (i := 0) rfl)) 0).trans (zM_F hMξ (hFbξ _ (List.mem_of_getElem? (i := 0) rfl)))) ?_
  refine zp_load (pc := 4) hx hb (zd_X11_at (4, .iload_n 1, 1, 0, []) (List.mem_of_getElem? (i := 2) rfl)) rfl (j := 1) rfl ?_
  refine zp_call (pc := 5) (how := 0) (idx := 150) (mi := 26) (S := []) hx hb hEξ hwξ heffξ hrmξ (zX_hwo1 hWξ A Y F M) rfl (j := 17) rfl rfl (by decide +kernel) (zd_X11_at (5, .invokevirtual 150, 3, 0, []) (List.mem_of_getElem? (i := 3) rfl)) [(A 1 : Int), p1ξ] rfl ⟨zp_o2 (zM_P hMξ (hYbξ _ (List.mem_of_getElem? (i := 1) rfl))), zp_o0 (by omega) (by omega) (by omega) (by omega), trivial⟩ (Nat.le_of_ble_eq_true rfl) ⟨hMξ, rfl, hYF0ξ⟩ (fun al halξ rni194ξ Pi194 Gi194 hexti194ξ hfri194ξ hoki194ξ hcsi194ξ hpsii194ξ => ?_)
  obtain rfl := List.mem_singleton.mp halξ
  have hri194ξ := zp_int (hoki194ξ _ rfl).1
  obtain ⟨hPei194ξ, hGei194ξ, hti194ξ⟩ := hpsii194ξ
  rw [hPei194ξ, hGei194ξ]
  clear hexti194ξ hfri194ξ hcsi194ξ hPei194ξ hGei194ξ
  have hti194ξ : rni194ξ = 1 ↔ 0 ≤ p1ξ ∧ p1ξ < (V 1 3) ∧ p1ξ < 10 := by
    have h9ξ : rni194ξ = 1 ↔ 0 ≤ p1ξ ∧ p1ξ < M 1 3 ∧ p1ξ < 10 := hti194ξ
    rw [(hVξ 1 3 (by decide))] at h9ξ
    exact h9ξ
  refine zp_if (pc := 8) (tgt := 13) hx hb (zd_X11_at (8, .ifCond .ne 5, 3, 0, []) (List.mem_of_getElem? (i := 4) rfl)) rfl (fun (hc195ξ : ¬ rni194ξ = 0) => ?_) (fun (hc195ξ : ¬ (¬ rni194ξ = 0)) => ?_)
  · have hbt196ξ := (Iff.mp hti194ξ) (by omega)
    refine zp_load (pc := 13) hx hb (zd_X11_at (13, .iload_n 2, 1, 0, []) (List.mem_of_getElem? (i := 7) rfl)) rfl (j := 2) rfl ?_
    by_cases hc198ξ : p2ξ = 0
    · refine zp_tin (tgt := 52) (off := 38) (pc := 14) hx hb (zd_X11_at (14, .tableswitch 101 0 5 #[38, 48, 58, 68, 78, 88], 38, 0, []) (List.mem_of_getElem? (i := 8) rfl)) (by rw [hc198ξ]; decide) (by rw [hc198ξ]; decide) (by rw [hc198ξ]; decide) rfl ?_
      refine zp_load (pc := 52) hx hb (zd_X11_at (52, .aload_n 0, 1, 0, []) (List.mem_of_getElem? (i := 9) rfl)) rfl (j := 0) rfl ?_
      refine zp_getf (n := (A 1 : Int)) (pc := 53) hx hb hEξ hwξ (zd_X11_at (53, .getfield 10, 3, 0, []) (List.mem_of_getElem? (i := 10) rfl)) (j := 50) rfl rfl rfl (zM_P hMξ (hYbξ _ (List.mem_of_getElem? (i := 0) rfl))) ((zM_G hMξ (hYbξ _ (List.mem_of_getElem? (i := 0) rfl)) 0).trans (zM_F hMξ (hFbξ _ (List.mem_of_getElem? (i := 0) rfl)))) ?_
      refine zp_getf (n := (A 32 : Int)) (pc := 56) hx hb hEξ hwξ (zd_X11_at (56, .getfield 160, 3, 0, []) (List.mem_of_getElem? (i := 11) rfl)) (j := 13) rfl rfl rfl (zM_P hMξ (hYbξ _ (List.mem_of_getElem? (i := 1) rfl))) ((zM_G hMξ (hYbξ _ (List.mem_of_getElem? (i := 1) rfl)) 4).trans (zM_F hMξ (hFbξ _ (List.mem_of_getElem? (i := 15) rfl)))) ?_
      refine zp_load (pc := 59) hx hb (zd_X11_at (59, .iload_n 1, 1, 0, []) (List.mem_of_getElem? (i := 12) rfl)) rfl (j := 1) rfl ?_
      refine zp_iald (j := p1ξ.toNat) (v := (V 32 (2000 + p1ξ.toNat))) (pc := 60) hx hb hwξ (zd_X11_at (60, .iaload, 1, 0, []) (List.mem_of_getElem? (i := 13) rfl)) (show zp_ia 1 44 = some (10, 0, 0, (-2147483648), 2147483647) from rfl) (zM_P hMξ (hYbξ _ (List.mem_of_getElem? (i := 19) rfl))) (by omega) (by omega) ((zM_G hMξ (hYbξ _ (List.mem_of_getElem? (i := 19) rfl)) (2000 + p1ξ.toNat)).trans (hVξ 32 (2000 + p1ξ.toNat) (by decide))) (fun hk199ξ => ?_)
      have hk199bξ := zp_int hk199ξ
      clear hk199ξ
      refine zp_iret (pc := 61) (n := (V 32 (2000 + p1ξ.toNat))) hx hb hEξ hQξ hU5ξ rfl (by decide) (zd_X11_at (61, .ireturn, 1, 0, []) (List.mem_of_getElem? (i := 14) rfl)) (j := 0) rfl (zp_o0 (by omega) (by omega) (by omega) (by omega)) ?_
      rw [hpsξ]
      refine ⟨rfl, ?_⟩
      have hffξ : zf_atc V p1ξ p2ξ = ((V 32 (2000 + p1ξ.toNat)), V) := by
        unfold zf_atc
        rw [if_pos ((Iff.mp hti194ξ) (by omega)), if_pos hc198ξ]
      show zMVc A Y F (zf_atc V p1ξ p2ξ).2 u.1 (zp_n u.2.1) ∧ (V 32 (2000 + p1ξ.toNat)) = (zf_atc V p1ξ p2ξ).1
      rw [hffξ]
      exact ⟨⟨M, hMξ, hVξ, trivial⟩, rfl⟩
    by_cases hc200ξ : p2ξ = 1
    · refine zp_tin (tgt := 62) (off := 48) (pc := 14) hx hb (zd_X11_at (14, .tableswitch 101 0 5 #[38, 48, 58, 68, 78, 88], 38, 0, []) (List.mem_of_getElem? (i := 8) rfl)) (by rw [hc200ξ]; decide) (by rw [hc200ξ]; decide) (by rw [hc200ξ]; decide) rfl ?_
      refine zp_load (pc := 62) hx hb (zd_X11_at (62, .aload_n 0, 1, 0, []) (List.mem_of_getElem? (i := 15) rfl)) rfl (j := 0) rfl ?_
      refine zp_getf (n := (A 1 : Int)) (pc := 63) hx hb hEξ hwξ (zd_X11_at (63, .getfield 10, 3, 0, []) (List.mem_of_getElem? (i := 16) rfl)) (j := 50) rfl rfl rfl (zM_P hMξ (hYbξ _ (List.mem_of_getElem? (i := 0) rfl))) ((zM_G hMξ (hYbξ _ (List.mem_of_getElem? (i := 0) rfl)) 0).trans (zM_F hMξ (hFbξ _ (List.mem_of_getElem? (i := 0) rfl)))) ?_
      refine zp_getf (n := (A 33 : Int)) (pc := 66) hx hb hEξ hwξ (zd_X11_at (66, .getfield 163, 3, 0, []) (List.mem_of_getElem? (i := 17) rfl)) (j := 14) rfl rfl rfl (zM_P hMξ (hYbξ _ (List.mem_of_getElem? (i := 1) rfl))) ((zM_G hMξ (hYbξ _ (List.mem_of_getElem? (i := 1) rfl)) 5).trans (zM_F hMξ (hFbξ _ (List.mem_of_getElem? (i := 16) rfl)))) ?_
      refine zp_load (pc := 69) hx hb (zd_X11_at (69, .iload_n 1, 1, 0, []) (List.mem_of_getElem? (i := 18) rfl)) rfl (j := 1) rfl ?_
      refine zp_iald (j := p1ξ.toNat) (v := (V 33 (2000 + p1ξ.toNat))) (pc := 70) hx hb hwξ (zd_X11_at (70, .iaload, 1, 0, []) (List.mem_of_getElem? (i := 19) rfl)) (show zp_ia 1 45 = some (10, 0, 0, (-2147483648), 2147483647) from rfl) (zM_P hMξ (hYbξ _ (List.mem_of_getElem? (i := 20) rfl))) (by omega) (by omega) ((zM_G hMξ (hYbξ _ (List.mem_of_getElem? (i := 20) rfl)) (2000 + p1ξ.toNat)).trans (hVξ 33 (2000 + p1ξ.toNat) (by decide))) (fun hk201ξ => ?_)
      have hk201bξ := zp_int hk201ξ
      clear hk201ξ
      refine zp_iret (pc := 71) (n := (V 33 (2000 + p1ξ.toNat))) hx hb hEξ hQξ hU5ξ rfl (by decide) (zd_X11_at (71, .ireturn, 1, 0, []) (List.mem_of_getElem? (i := 20) rfl)) (j := 0) rfl (zp_o0 (by omega) (by omega) (by omega) (by omega)) ?_
      rw [hpsξ]
      refine ⟨rfl, ?_⟩
      have hffξ : zf_atc V p1ξ p2ξ = ((V 33 (2000 + p1ξ.toNat)), V) := by
        unfold zf_atc
        rw [if_pos ((Iff.mp hti194ξ) (by omega)), if_neg hc198ξ, if_pos hc200ξ]
      show zMVc A Y F (zf_atc V p1ξ p2ξ).2 u.1 (zp_n u.2.1) ∧ (V 33 (2000 + p1ξ.toNat)) = (zf_atc V p1ξ p2ξ).1
      rw [hffξ]
      exact ⟨⟨M, hMξ, hVξ, trivial⟩, rfl⟩
    by_cases hc202ξ : p2ξ = 2
    · refine zp_tin (tgt := 72) (off := 58) (pc := 14) hx hb (zd_X11_at (14, .tableswitch 101 0 5 #[38, 48, 58, 68, 78, 88], 38, 0, []) (List.mem_of_getElem? (i := 8) rfl)) (by rw [hc202ξ]; decide) (by rw [hc202ξ]; decide) (by rw [hc202ξ]; decide) rfl ?_
      refine zp_load (pc := 72) hx hb (zd_X11_at (72, .aload_n 0, 1, 0, []) (List.mem_of_getElem? (i := 21) rfl)) rfl (j := 0) rfl ?_
      refine zp_getf (n := (A 1 : Int)) (pc := 73) hx hb hEξ hwξ (zd_X11_at (73, .getfield 10, 3, 0, []) (List.mem_of_getElem? (i := 22) rfl)) (j := 50) rfl rfl rfl (zM_P hMξ (hYbξ _ (List.mem_of_getElem? (i := 0) rfl))) ((zM_G hMξ (hYbξ _ (List.mem_of_getElem? (i := 0) rfl)) 0).trans (zM_F hMξ (hFbξ _ (List.mem_of_getElem? (i := 0) rfl)))) ?_
      refine zp_getf (n := (A 34 : Int)) (pc := 76) hx hb hEξ hwξ (zd_X11_at (76, .getfield 166, 3, 0, []) (List.mem_of_getElem? (i := 23) rfl)) (j := 15) rfl rfl rfl (zM_P hMξ (hYbξ _ (List.mem_of_getElem? (i := 1) rfl))) ((zM_G hMξ (hYbξ _ (List.mem_of_getElem? (i := 1) rfl)) 6).trans (zM_F hMξ (hFbξ _ (List.mem_of_getElem? (i := 17) rfl)))) ?_
      refine zp_load (pc := 79) hx hb (zd_X11_at (79, .iload_n 1, 1, 0, []) (List.mem_of_getElem? (i := 24) rfl)) rfl (j := 1) rfl ?_
      refine zp_iald (j := p1ξ.toNat) (v := (V 34 (2000 + p1ξ.toNat))) (pc := 80) hx hb hwξ (zd_X11_at (80, .iaload, 1, 0, []) (List.mem_of_getElem? (i := 25) rfl)) (show zp_ia 1 46 = some (10, 0, 0, (-2147483648), 2147483647) from rfl) (zM_P hMξ (hYbξ _ (List.mem_of_getElem? (i := 21) rfl))) (by omega) (by omega) ((zM_G hMξ (hYbξ _ (List.mem_of_getElem? (i := 21) rfl)) (2000 + p1ξ.toNat)).trans (hVξ 34 (2000 + p1ξ.toNat) (by decide))) (fun hk203ξ => ?_)
      have hk203bξ := zp_int hk203ξ
      clear hk203ξ
      refine zp_iret (pc := 81) (n := (V 34 (2000 + p1ξ.toNat))) hx hb hEξ hQξ hU5ξ rfl (by decide) (zd_X11_at (81, .ireturn, 1, 0, []) (List.mem_of_getElem? (i := 26) rfl)) (j := 0) rfl (zp_o0 (by omega) (by omega) (by omega) (by omega)) ?_
      rw [hpsξ]
      refine ⟨rfl, ?_⟩
      have hffξ : zf_atc V p1ξ p2ξ = ((V 34 (2000 + p1ξ.toNat)), V) := by
        unfold zf_atc
        rw [if_pos ((Iff.mp hti194ξ) (by omega)), if_neg hc198ξ, if_neg hc200ξ, if_pos hc202ξ]
      show zMVc A Y F (zf_atc V p1ξ p2ξ).2 u.1 (zp_n u.2.1) ∧ (V 34 (2000 + p1ξ.toNat)) = (zf_atc V p1ξ p2ξ).1
      rw [hffξ]
      exact ⟨⟨M, hMξ, hVξ, trivial⟩, rfl⟩
    by_cases hc204ξ : p2ξ = 3
    · refine zp_tin (tgt := 82) (off := 68) (pc := 14) hx hb (zd_X11_at (14, .tableswitch 101 0 5 #[38, 48, 58, 68, 78, 88], 38, 0, []) (List.mem_of_getElem? (i := 8) rfl)) (by rw [hc204ξ]; decide) (by rw [hc204ξ]; decide) (by rw [hc204ξ]; decide) rfl ?_
      refine zp_load (pc := 82) hx hb (zd_X11_at (82, .aload_n 0, 1, 0, []) (List.mem_of_getElem? (i := 27) rfl)) rfl (j := 0) rfl ?_
      refine zp_getf (n := (A 1 : Int)) (pc := 83) hx hb hEξ hwξ (zd_X11_at (83, .getfield 10, 3, 0, []) (List.mem_of_getElem? (i := 28) rfl)) (j := 50) rfl rfl rfl (zM_P hMξ (hYbξ _ (List.mem_of_getElem? (i := 0) rfl))) ((zM_G hMξ (hYbξ _ (List.mem_of_getElem? (i := 0) rfl)) 0).trans (zM_F hMξ (hFbξ _ (List.mem_of_getElem? (i := 0) rfl)))) ?_
      refine zp_getf (n := (A 35 : Int)) (pc := 86) hx hb hEξ hwξ (zd_X11_at (86, .getfield 169, 3, 0, []) (List.mem_of_getElem? (i := 29) rfl)) (j := 16) rfl rfl rfl (zM_P hMξ (hYbξ _ (List.mem_of_getElem? (i := 1) rfl))) ((zM_G hMξ (hYbξ _ (List.mem_of_getElem? (i := 1) rfl)) 7).trans (zM_F hMξ (hFbξ _ (List.mem_of_getElem? (i := 18) rfl)))) ?_
      refine zp_load (pc := 89) hx hb (zd_X11_at (89, .iload_n 1, 1, 0, []) (List.mem_of_getElem? (i := 30) rfl)) rfl (j := 1) rfl ?_
      refine zp_iald (j := p1ξ.toNat) (v := (V 35 (2000 + p1ξ.toNat))) (pc := 90) hx hb hwξ (zd_X11_at (90, .iaload, 1, 0, []) (List.mem_of_getElem? (i := 31) rfl)) (show zp_ia 1 47 = some (10, 0, 0, (-2147483648), 2147483647) from rfl) (zM_P hMξ (hYbξ _ (List.mem_of_getElem? (i := 22) rfl))) (by omega) (by omega) ((zM_G hMξ (hYbξ _ (List.mem_of_getElem? (i := 22) rfl)) (2000 + p1ξ.toNat)).trans (hVξ 35 (2000 + p1ξ.toNat) (by decide))) (fun hk205ξ => ?_)
      have hk205bξ := zp_int hk205ξ
      clear hk205ξ
      refine zp_iret (pc := 91) (n := (V 35 (2000 + p1ξ.toNat))) hx hb hEξ hQξ hU5ξ rfl (by decide) (zd_X11_at (91, .ireturn, 1, 0, []) (List.mem_of_getElem? (i := 32) rfl)) (j := 0) rfl (zp_o0 (by omega) (by omega) (by omega) (by omega)) ?_
      rw [hpsξ]
      refine ⟨rfl, ?_⟩
      have hffξ : zf_atc V p1ξ p2ξ = ((V 35 (2000 + p1ξ.toNat)), V) := by
        unfold zf_atc
        rw [if_pos ((Iff.mp hti194ξ) (by omega)), if_neg hc198ξ, if_neg hc200ξ, if_neg hc202ξ, if_pos hc204ξ]
      show zMVc A Y F (zf_atc V p1ξ p2ξ).2 u.1 (zp_n u.2.1) ∧ (V 35 (2000 + p1ξ.toNat)) = (zf_atc V p1ξ p2ξ).1
      rw [hffξ]
      exact ⟨⟨M, hMξ, hVξ, trivial⟩, rfl⟩
    by_cases hc206ξ : p2ξ = 4
    · refine zp_tin (tgt := 92) (off := 78) (pc := 14) hx hb (zd_X11_at (14, .tableswitch 101 0 5 #[38, 48, 58, 68, 78, 88], 38, 0, []) (List.mem_of_getElem? (i := 8) rfl)) (by rw [hc206ξ]; decide) (by rw [hc206ξ]; decide) (by rw [hc206ξ]; decide) rfl ?_
      refine zp_load (pc := 92) hx hb (zd_X11_at (92, .aload_n 0, 1, 0, []) (List.mem_of_getElem? (i := 33) rfl)) rfl (j := 0) rfl ?_
      refine zp_getf (n := (A 1 : Int)) (pc := 93) hx hb hEξ hwξ (zd_X11_at (93, .getfield 10, 3, 0, []) (List.mem_of_getElem? (i := 34) rfl)) (j := 50) rfl rfl rfl (zM_P hMξ (hYbξ _ (List.mem_of_getElem? (i := 0) rfl))) ((zM_G hMξ (hYbξ _ (List.mem_of_getElem? (i := 0) rfl)) 0).trans (zM_F hMξ (hFbξ _ (List.mem_of_getElem? (i := 0) rfl)))) ?_
      refine zp_getf (n := (A 36 : Int)) (pc := 96) hx hb hEξ hwξ (zd_X11_at (96, .getfield 172, 3, 0, []) (List.mem_of_getElem? (i := 35) rfl)) (j := 17) rfl rfl rfl (zM_P hMξ (hYbξ _ (List.mem_of_getElem? (i := 1) rfl))) ((zM_G hMξ (hYbξ _ (List.mem_of_getElem? (i := 1) rfl)) 8).trans (zM_F hMξ (hFbξ _ (List.mem_of_getElem? (i := 19) rfl)))) ?_
      refine zp_load (pc := 99) hx hb (zd_X11_at (99, .iload_n 1, 1, 0, []) (List.mem_of_getElem? (i := 36) rfl)) rfl (j := 1) rfl ?_
      refine zp_iald (j := p1ξ.toNat) (v := (V 36 (2000 + p1ξ.toNat))) (pc := 100) hx hb hwξ (zd_X11_at (100, .iaload, 1, 0, []) (List.mem_of_getElem? (i := 37) rfl)) (show zp_ia 1 48 = some (10, 0, 0, (-2147483648), 2147483647) from rfl) (zM_P hMξ (hYbξ _ (List.mem_of_getElem? (i := 23) rfl))) (by omega) (by omega) ((zM_G hMξ (hYbξ _ (List.mem_of_getElem? (i := 23) rfl)) (2000 + p1ξ.toNat)).trans (hVξ 36 (2000 + p1ξ.toNat) (by decide))) (fun hk207ξ => ?_)
      have hk207bξ := zp_int hk207ξ
      clear hk207ξ
      refine zp_iret (pc := 101) (n := (V 36 (2000 + p1ξ.toNat))) hx hb hEξ hQξ hU5ξ rfl (by decide) (zd_X11_at (101, .ireturn, 1, 0, []) (List.mem_of_getElem? (i := 38) rfl)) (j := 0) rfl (zp_o0 (by omega) (by omega) (by omega) (by omega)) ?_
      rw [hpsξ]
      refine ⟨rfl, ?_⟩
      have hffξ : zf_atc V p1ξ p2ξ = ((V 36 (2000 + p1ξ.toNat)), V) := by
        unfold zf_atc
        rw [if_pos ((Iff.mp hti194ξ) (by omega)), if_neg hc198ξ, if_neg hc200ξ, if_neg hc202ξ, if_neg hc204ξ, if_pos hc206ξ]
      show zMVc A Y F (zf_atc V p1ξ p2ξ).2 u.1 (zp_n u.2.1) ∧ (V 36 (2000 + p1ξ.toNat)) = (zf_atc V p1ξ p2ξ).1
      rw [hffξ]
      exact ⟨⟨M, hMξ, hVξ, trivial⟩, rfl⟩
    by_cases hc208ξ : p2ξ = 5
    · refine zp_tin (tgt := 102) (off := 88) (pc := 14) hx hb (zd_X11_at (14, .tableswitch 101 0 5 #[38, 48, 58, 68, 78, 88], 38, 0, []) (List.mem_of_getElem? (i := 8) rfl)) (by rw [hc208ξ]; decide) (by rw [hc208ξ]; decide) (by rw [hc208ξ]; decide) rfl ?_
      refine zp_load (pc := 102) hx hb (zd_X11_at (102, .aload_n 0, 1, 0, []) (List.mem_of_getElem? (i := 39) rfl)) rfl (j := 0) rfl ?_
      refine zp_getf (n := (A 1 : Int)) (pc := 103) hx hb hEξ hwξ (zd_X11_at (103, .getfield 10, 3, 0, []) (List.mem_of_getElem? (i := 40) rfl)) (j := 50) rfl rfl rfl (zM_P hMξ (hYbξ _ (List.mem_of_getElem? (i := 0) rfl))) ((zM_G hMξ (hYbξ _ (List.mem_of_getElem? (i := 0) rfl)) 0).trans (zM_F hMξ (hFbξ _ (List.mem_of_getElem? (i := 0) rfl)))) ?_
      refine zp_getf (n := (A 2 : Int)) (pc := 106) hx hb hEξ hwξ (zd_X11_at (106, .getfield 135, 3, 0, []) (List.mem_of_getElem? (i := 41) rfl)) (j := 24) rfl rfl rfl (zM_P hMξ (hYbξ _ (List.mem_of_getElem? (i := 1) rfl))) ((zM_G hMξ (hYbξ _ (List.mem_of_getElem? (i := 1) rfl)) 18).trans (zM_F hMξ (hFbξ _ (List.mem_of_getElem? (i := 24) rfl)))) ?_
      refine zp_getf (n := (A 52 : Int)) (pc := 109) hx hb hEξ hwξ (zd_X11_at (109, .getfield 175, 3, 0, []) (List.mem_of_getElem? (i := 42) rfl)) (j := 4) rfl rfl rfl (zM_P hMξ (hYbξ _ (List.mem_of_getElem? (i := 2) rfl))) ((zM_G hMξ (hYbξ _ (List.mem_of_getElem? (i := 2) rfl)) 2).trans (zM_F hMξ (hFbξ _ (List.mem_of_getElem? (i := 27) rfl)))) ?_
      refine zp_load (pc := 112) hx hb (zd_X11_at (112, .iload_n 1, 1, 0, []) (List.mem_of_getElem? (i := 43) rfl)) rfl (j := 1) rfl ?_
      refine zp_iald (j := p1ξ.toNat) (v := (V 52 (2000 + p1ξ.toNat))) (pc := 113) hx hb hwξ (zd_X11_at (113, .iaload, 1, 0, []) (List.mem_of_getElem? (i := 44) rfl)) (show zp_ia 1 19 = some (10, 0, 0, (-2147483648), 2147483647) from rfl) (zM_P hMξ (hYbξ _ (List.mem_of_getElem? (i := 30) rfl))) (by omega) (by omega) ((zM_G hMξ (hYbξ _ (List.mem_of_getElem? (i := 30) rfl)) (2000 + p1ξ.toNat)).trans (hVξ 52 (2000 + p1ξ.toNat) (by decide))) (fun hk209ξ => ?_)
      have hk209bξ := zp_int hk209ξ
      clear hk209ξ
      refine zp_iret (pc := 114) (n := (V 52 (2000 + p1ξ.toNat))) hx hb hEξ hQξ hU5ξ rfl (by decide) (zd_X11_at (114, .ireturn, 1, 0, []) (List.mem_of_getElem? (i := 45) rfl)) (j := 0) rfl (zp_o0 (by omega) (by omega) (by omega) (by omega)) ?_
      rw [hpsξ]
      refine ⟨rfl, ?_⟩
      have hffξ : zf_atc V p1ξ p2ξ = ((V 52 (2000 + p1ξ.toNat)), V) := by
        unfold zf_atc
        rw [if_pos ((Iff.mp hti194ξ) (by omega)), if_neg hc198ξ, if_neg hc200ξ, if_neg hc202ξ, if_neg hc204ξ, if_neg hc206ξ, if_pos hc208ξ]
      show zMVc A Y F (zf_atc V p1ξ p2ξ).2 u.1 (zp_n u.2.1) ∧ (V 52 (2000 + p1ξ.toNat)) = (zf_atc V p1ξ p2ξ).1
      rw [hffξ]
      exact ⟨⟨M, hMξ, hVξ, trivial⟩, rfl⟩
    refine zp_tout (tgt := 115) (pc := 14) hx hb (zd_X11_at (14, .tableswitch 101 0 5 #[38, 48, 58, 68, 78, 88], 38, 0, []) (List.mem_of_getElem? (i := 8) rfl)) (by omega) rfl ?_
    refine zp_const (pc := 115) hx hb (zd_X11_at (115, .iconst (-1), 1, 0, []) (List.mem_of_getElem? (i := 46) rfl)) rfl rfl ?_
    refine zp_iret (pc := 116) (n := (-1)) hx hb hEξ hQξ hU5ξ rfl (by decide) (zd_X11_at (116, .ireturn, 1, 0, []) (List.mem_of_getElem? (i := 47) rfl)) (j := 0) rfl (zp_o0 (by omega) (by omega) (by omega) (by omega)) ?_
    rw [hpsξ]
    refine ⟨rfl, ?_⟩
    have hffξ : zf_atc V p1ξ p2ξ = ((-1), V) := by
      unfold zf_atc
      rw [if_pos ((Iff.mp hti194ξ) (by omega)), if_neg hc198ξ, if_neg hc200ξ, if_neg hc202ξ, if_neg hc204ξ, if_neg hc206ξ, if_neg hc208ξ]
    show zMVc A Y F (zf_atc V p1ξ p2ξ).2 u.1 (zp_n u.2.1) ∧ (-1) = (zf_atc V p1ξ p2ξ).1
    rw [hffξ]
    exact ⟨⟨M, hMξ, hVξ, trivial⟩, rfl⟩
  · have hbf197ξ : ¬ (0 ≤ p1ξ ∧ p1ξ < (V 1 3) ∧ p1ξ < 10) := fun h9ξ => absurd ((Iff.mpr hti194ξ) h9ξ) (by omega)
    refine zp_const (pc := 11) hx hb (zd_X11_at (11, .iconst (-1), 1, 0, []) (List.mem_of_getElem? (i := 5) rfl)) rfl rfl ?_
    refine zp_iret (pc := 12) (n := (-1)) hx hb hEξ hQξ hU5ξ rfl (by decide) (zd_X11_at (12, .ireturn, 1, 0, []) (List.mem_of_getElem? (i := 6) rfl)) (j := 0) rfl (zp_o0 (by omega) (by omega) (by omega) (by omega)) ?_
    rw [hpsξ]
    refine ⟨rfl, ?_⟩
    have hffξ : zf_atc V p1ξ p2ξ = ((-1), V) := by
      unfold zf_atc
      rw [if_neg (fun h9ξ => absurd ((Iff.mpr hti194ξ) h9ξ) (by omega))]
    show zMVc A Y F (zf_atc V p1ξ p2ξ).2 u.1 (zp_n u.2.1) ∧ (-1) = (zf_atc V p1ξ p2ξ).1
    rw [hffξ]
    exact ⟨⟨M, hMξ, hVξ, trivial⟩, rfl⟩
noncomputable def zf_cntc (V : Nat → Nat → Int) (p1ξ : Int) : Int × (Nat → Nat → Int) := if p1ξ = 0 then ((V 1 1), V) else if p1ξ = 1 then ((V 1 3), V) else if p1ξ = 2 then ((V 1 9), V) else if p1ξ = 3 then ((V 1 14), V) else if p1ξ = 4 then ((V 3 3), V) else if p1ξ = 5 then ((V 11 1), V) else if p1ξ = 6 then ((V 20 (2000 + 0)), V) else if p1ξ = 7 then ((V 20 (2000 + 1)), V) else if p1ξ = 8 then ((V 20 (2000 + 2)), V) else if p1ξ = 9 then ((V 20 (2000 + 3)), V) else if p1ξ = 10 then ((V 20 (2000 + 4)), V) else if p1ξ = 11 then ((V 1 15), V) else if p1ξ = 12 then ((V 2 3), V) else if p1ξ = 13 then if (V 2 4) = 0 then (0, V) else (1, V) else if p1ξ = 14 then ((V 2 5), V) else if p1ξ = 15 then ((V 2 6), V) else if p1ξ = 16 then ((V 1 16), V) else if p1ξ = 17 then ((V 1 17), V) else ((-1), V)
noncomputable def zK_cntc : zk_K := (zt_mn 179, prog_1_method_49_code, 2, (Option.some Jvm.ClassFile.FieldType.int), 1, 11, [(2, 12, 0, 0), (0, 0, (-2147483648), 2147483647)], [(some (0, 0, (-2147483648), 2147483647), [])], zUC, (2, 180, 0, 0))
noncomputable def zφ_cntc (A : Nat → Nat) (Y : List (Nat × Nat)) (F : List (Nat × Nat × Nat)) (V : Nat → Nat → Int) : (Nat → Option Nat) → (Nat → Nat → Int) → List Int → Prop := fun P G ps => zMVc A Y F V P G ∧ ps.getD 0 0 = (A 0 : Int) ∧ zMc Y F
noncomputable def zψ_cntc (A : Nat → Nat) (Y : List (Nat × Nat)) (F : List (Nat × Nat × Nat)) (V : Nat → Nat → Int) : (Nat → Option Nat) → (Nat → Nat → Int) → List Int → (Nat → Option Nat) → (Nat → Nat → Int) → Int → Prop := fun P G ps P' G' rn => P' = P ∧ zMVc A Y F (zf_cntc V (ps.getD 1 0)).2 P' G' ∧ rn = (zf_cntc V (ps.getD 1 0)).1
theorem zX_cntc {l : Launch} {w : zk_W} (hWξ : zh_W w) (A : Nat → Nat) (Y : List (Nat × Nat)) (F : List (Nat × Nat × Nat)) (V : Nat → Nat → Int) : zk_metX l w zt_dv zt_TB zK_cntc (zp_A (zφ_cntc A Y F V)) (zp_B (zψ_cntc A Y F V)) ∧ zk_cok w zt_TB zK_cntc := by
  refine zp_methX (cn := "WoundTown") zp_lkallW hWξ (pl := 1332) rfl (by decide +kernel) (fun p e R s m args below meth c Q u hx hb hEξ hQξ hU5ξ heffξ hnLξ hokξ hφ => ?_)
  have hwξ := hWξ.1
  obtain ⟨p0ξ, p1ξ, hpsξ, tk0, tk1⟩ := zp_ps2 hokξ
  have hrmξ : zk_Kr (zk_ev (zt_types, zp_lkW, zt_dv, [], [], zp_lcW, zK_cntc)) = zk_Kr zK_cntc := rfl
  rw [hpsξ] at hφ ⊢
  have hφ : zMVc A Y F V u.1 (zp_n u.2.1) ∧ p0ξ = (A 0 : Int) ∧ zMc Y F := hφ
  obtain ⟨⟨M, hMξ, hVξ, hSbξ⟩, rfl, hYFξ⟩ := hφ
  have hYF0ξ := hYFξ
  obtain ⟨hYbξ, hFbξ, hFxξ, -⟩ := hYFξ
  have hi1ξ := zp_int tk1
  show zp_J p l e R s m args below meth c Q w u [] 0 [(0, 2, (A 0 : Int)), (1, 0, p1ξ)] [] u.1 (zp_n u.2.1)
  refine zp_load (pc := 0) hx hb (zd_X11_count (0, .iload_n 1, 1, 0, []) (List.mem_of_getElem? (i := 0) rfl)) rfl (j := 1) rfl ?_
  by_cases hc210ξ : p1ξ = 0
  · refine zp_tin (tgt := 88) (off := 87) (pc := 1) hx hb (zd_X11_count (1, .tableswitch 246 0 17 #[87, 95, 103, 111, 119, 127, 135, 142, 149, 156, 163, 170, 178, 189, 208, 219, 230, 238], 87, 0, []) (List.mem_of_getElem? (i := 1) rfl)) (by rw [hc210ξ]; decide) (by rw [hc210ξ]; decide) (by rw [hc210ξ]; decide) rfl ?_
    refine zp_load (pc := 88) hx hb (zd_X11_count (88, .aload_n 0, 1, 0, []) (List.mem_of_getElem? (i := 2) rfl)) rfl (j := 0) rfl ?_
    refine zp_getf (n := (A 1 : Int)) (pc := 89) hx hb hEξ hwξ (zd_X11_count (89, .getfield 10, 3, 0, []) (List.mem_of_getElem? (i := 3) rfl)) (j := 50) rfl rfl rfl (zM_P hMξ (hYbξ _ (List.mem_of_getElem? (i := 0) rfl))) ((zM_G hMξ (hYbξ _ (List.mem_of_getElem? (i := 0) rfl)) 0).trans (zM_F hMξ (hFbξ _ (List.mem_of_getElem? (i := 0) rfl)))) ?_
    refine zp_getf (n := (V 1 1)) (pc := 92) hx hb hEξ hwξ (zd_X11_count (92, .getfield 121, 3, 0, []) (List.mem_of_getElem? (i := 4) rfl)) (j := 10) rfl rfl rfl (zM_P hMξ (hYbξ _ (List.mem_of_getElem? (i := 1) rfl))) ((zM_G hMξ (hYbξ _ (List.mem_of_getElem? (i := 1) rfl)) 1).trans (hVξ 1 1 (by decide))) ?_
    refine zp_kn (k := 1) (a := (A 1)) hwξ (show zp_fd 10 1 = some (9, 0, 0, 0, 6) from rfl) rfl (zM_P hMξ (hYbξ _ (List.mem_of_getElem? (i := 1) rfl))) (fun hf211ξ => ?_)
    have hf211bξ := zp_int hf211ξ
    rw [((zM_G hMξ (hYbξ _ (List.mem_of_getElem? (i := 1) rfl)) 1).trans (hVξ 1 1 (by decide)))] at hf211bξ
    clear hf211ξ
    refine zp_iret (pc := 95) (n := (V 1 1)) hx hb hEξ hQξ hU5ξ rfl (by decide) (zd_X11_count (95, .ireturn, 1, 0, []) (List.mem_of_getElem? (i := 5) rfl)) (j := 0) rfl (zp_o0 (by omega) (by omega) (by omega) (by omega)) ?_
    rw [hpsξ]
    refine ⟨rfl, ?_⟩
    have hffξ : zf_cntc V p1ξ = ((V 1 1), V) := by
      unfold zf_cntc
      rw [if_pos hc210ξ]
    show zMVc A Y F (zf_cntc V p1ξ).2 u.1 (zp_n u.2.1) ∧ (V 1 1) = (zf_cntc V p1ξ).1
    rw [hffξ]
    exact ⟨⟨M, hMξ, hVξ, trivial⟩, rfl⟩
  by_cases hc212ξ : p1ξ = 1
  · refine zp_tin (tgt := 96) (off := 95) (pc := 1) hx hb (zd_X11_count (1, .tableswitch 246 0 17 #[87, 95, 103, 111, 119, 127, 135, 142, 149, 156, 163, 170, 178, 189, 208, 219, 230, 238], 87, 0, []) (List.mem_of_getElem? (i := 1) rfl)) (by rw [hc212ξ]; decide) (by rw [hc212ξ]; decide) (by rw [hc212ξ]; decide) rfl ?_
    refine zp_load (pc := 96) hx hb (zd_X11_count (96, .aload_n 0, 1, 0, []) (List.mem_of_getElem? (i := 6) rfl)) rfl (j := 0) rfl ?_
    refine zp_getf (n := (A 1 : Int)) (pc := 97) hx hb hEξ hwξ (zd_X11_count (97, .getfield 10, 3, 0, []) (List.mem_of_getElem? (i := 7) rfl)) (j := 50) rfl rfl rfl (zM_P hMξ (hYbξ _ (List.mem_of_getElem? (i := 0) rfl))) ((zM_G hMξ (hYbξ _ (List.mem_of_getElem? (i := 0) rfl)) 0).trans (zM_F hMξ (hFbξ _ (List.mem_of_getElem? (i := 0) rfl)))) ?_
    refine zp_getf (n := (V 1 3)) (pc := 100) hx hb hEξ hwξ (zd_X11_count (100, .getfield 153, 3, 0, []) (List.mem_of_getElem? (i := 8) rfl)) (j := 12) rfl rfl rfl (zM_P hMξ (hYbξ _ (List.mem_of_getElem? (i := 1) rfl))) ((zM_G hMξ (hYbξ _ (List.mem_of_getElem? (i := 1) rfl)) 3).trans (hVξ 1 3 (by decide))) ?_
    refine zp_kn (k := 3) (a := (A 1)) hwξ (show zp_fd 10 3 = some (9, 0, 0, 0, 10) from rfl) rfl (zM_P hMξ (hYbξ _ (List.mem_of_getElem? (i := 1) rfl))) (fun hf213ξ => ?_)
    have hf213bξ := zp_int hf213ξ
    rw [((zM_G hMξ (hYbξ _ (List.mem_of_getElem? (i := 1) rfl)) 3).trans (hVξ 1 3 (by decide)))] at hf213bξ
    clear hf213ξ
    refine zp_iret (pc := 103) (n := (V 1 3)) hx hb hEξ hQξ hU5ξ rfl (by decide) (zd_X11_count (103, .ireturn, 1, 0, []) (List.mem_of_getElem? (i := 9) rfl)) (j := 0) rfl (zp_o0 (by omega) (by omega) (by omega) (by omega)) ?_
    rw [hpsξ]
    refine ⟨rfl, ?_⟩
    have hffξ : zf_cntc V p1ξ = ((V 1 3), V) := by
      unfold zf_cntc
      rw [if_neg hc210ξ, if_pos hc212ξ]
    show zMVc A Y F (zf_cntc V p1ξ).2 u.1 (zp_n u.2.1) ∧ (V 1 3) = (zf_cntc V p1ξ).1
    rw [hffξ]
    exact ⟨⟨M, hMξ, hVξ, trivial⟩, rfl⟩
  by_cases hc214ξ : p1ξ = 2
  · refine zp_tin (tgt := 104) (off := 103) (pc := 1) hx hb (zd_X11_count (1, .tableswitch 246 0 17 #[87, 95, 103, 111, 119, 127, 135, 142, 149, 156, 163, 170, 178, 189, 208, 219, 230, 238], 87, 0, []) (List.mem_of_getElem? (i := 1) rfl)) (by rw [hc214ξ]; decide) (by rw [hc214ξ]; decide) (by rw [hc214ξ]; decide) rfl ?_
    refine zp_load (pc := 104) hx hb (zd_X11_count (104, .aload_n 0, 1, 0, []) (List.mem_of_getElem? (i := 10) rfl)) rfl (j := 0) rfl ?_
    refine zp_getf (n := (A 1 : Int)) (pc := 105) hx hb hEξ hwξ (zd_X11_count (105, .getfield 10, 3, 0, []) (List.mem_of_getElem? (i := 11) rfl)) (j := 50) rfl rfl rfl (zM_P hMξ (hYbξ _ (List.mem_of_getElem? (i := 0) rfl))) ((zM_G hMξ (hYbξ _ (List.mem_of_getElem? (i := 0) rfl)) 0).trans (zM_F hMξ (hFbξ _ (List.mem_of_getElem? (i := 0) rfl)))) ?_
    refine zp_getf (n := (V 1 9)) (pc := 108) hx hb hEξ hwξ (zd_X11_count (108, .getfield 396, 3, 0, []) (List.mem_of_getElem? (i := 12) rfl)) (j := 18) rfl rfl rfl (zM_P hMξ (hYbξ _ (List.mem_of_getElem? (i := 1) rfl))) ((zM_G hMξ (hYbξ _ (List.mem_of_getElem? (i := 1) rfl)) 9).trans (hVξ 1 9 (by decide))) ?_
    refine zp_kn (k := 9) (a := (A 1)) hwξ (show zp_fd 10 9 = some (9, 0, 0, 0, 8) from rfl) rfl (zM_P hMξ (hYbξ _ (List.mem_of_getElem? (i := 1) rfl))) (fun hf215ξ => ?_)
    have hf215bξ := zp_int hf215ξ
    rw [((zM_G hMξ (hYbξ _ (List.mem_of_getElem? (i := 1) rfl)) 9).trans (hVξ 1 9 (by decide)))] at hf215bξ
    clear hf215ξ
    refine zp_iret (pc := 111) (n := (V 1 9)) hx hb hEξ hQξ hU5ξ rfl (by decide) (zd_X11_count (111, .ireturn, 1, 0, []) (List.mem_of_getElem? (i := 13) rfl)) (j := 0) rfl (zp_o0 (by omega) (by omega) (by omega) (by omega)) ?_
    rw [hpsξ]
    refine ⟨rfl, ?_⟩
    have hffξ : zf_cntc V p1ξ = ((V 1 9), V) := by
      unfold zf_cntc
      rw [if_neg hc210ξ, if_neg hc212ξ, if_pos hc214ξ]
    show zMVc A Y F (zf_cntc V p1ξ).2 u.1 (zp_n u.2.1) ∧ (V 1 9) = (zf_cntc V p1ξ).1
    rw [hffξ]
    exact ⟨⟨M, hMξ, hVξ, trivial⟩, rfl⟩
  by_cases hc216ξ : p1ξ = 3
  · refine zp_tin (tgt := 112) (off := 111) (pc := 1) hx hb (zd_X11_count (1, .tableswitch 246 0 17 #[87, 95, 103, 111, 119, 127, 135, 142, 149, 156, 163, 170, 178, 189, 208, 219, 230, 238], 87, 0, []) (List.mem_of_getElem? (i := 1) rfl)) (by rw [hc216ξ]; decide) (by rw [hc216ξ]; decide) (by rw [hc216ξ]; decide) rfl ?_
    refine zp_load (pc := 112) hx hb (zd_X11_count (112, .aload_n 0, 1, 0, []) (List.mem_of_getElem? (i := 14) rfl)) rfl (j := 0) rfl ?_
    refine zp_getf (n := (A 1 : Int)) (pc := 113) hx hb hEξ hwξ (zd_X11_count (113, .getfield 10, 3, 0, []) (List.mem_of_getElem? (i := 15) rfl)) (j := 50) rfl rfl rfl (zM_P hMξ (hYbξ _ (List.mem_of_getElem? (i := 0) rfl))) ((zM_G hMξ (hYbξ _ (List.mem_of_getElem? (i := 0) rfl)) 0).trans (zM_F hMξ (hFbξ _ (List.mem_of_getElem? (i := 0) rfl)))) ?_
    refine zp_getf (n := (V 1 14)) (pc := 116) hx hb hEξ hwξ (zd_X11_count (116, .getfield 205, 3, 0, []) (List.mem_of_getElem? (i := 16) rfl)) (j := 20) rfl rfl rfl (zM_P hMξ (hYbξ _ (List.mem_of_getElem? (i := 1) rfl))) ((zM_G hMξ (hYbξ _ (List.mem_of_getElem? (i := 1) rfl)) 14).trans (hVξ 1 14 (by decide))) ?_
    refine zp_kn (k := 14) (a := (A 1)) hwξ (show zp_fd 10 14 = some (9, 0, 0, 0, 6) from rfl) rfl (zM_P hMξ (hYbξ _ (List.mem_of_getElem? (i := 1) rfl))) (fun hf217ξ => ?_)
    have hf217bξ := zp_int hf217ξ
    rw [((zM_G hMξ (hYbξ _ (List.mem_of_getElem? (i := 1) rfl)) 14).trans (hVξ 1 14 (by decide)))] at hf217bξ
    clear hf217ξ
    refine zp_iret (pc := 119) (n := (V 1 14)) hx hb hEξ hQξ hU5ξ rfl (by decide) (zd_X11_count (119, .ireturn, 1, 0, []) (List.mem_of_getElem? (i := 17) rfl)) (j := 0) rfl (zp_o0 (by omega) (by omega) (by omega) (by omega)) ?_
    rw [hpsξ]
    refine ⟨rfl, ?_⟩
    have hffξ : zf_cntc V p1ξ = ((V 1 14), V) := by
      unfold zf_cntc
      rw [if_neg hc210ξ, if_neg hc212ξ, if_neg hc214ξ, if_pos hc216ξ]
    show zMVc A Y F (zf_cntc V p1ξ).2 u.1 (zp_n u.2.1) ∧ (V 1 14) = (zf_cntc V p1ξ).1
    rw [hffξ]
    exact ⟨⟨M, hMξ, hVξ, trivial⟩, rfl⟩
  by_cases hc218ξ : p1ξ = 4
  · refine zp_tin (tgt := 120) (off := 119) (pc := 1) hx hb (zd_X11_count (1, .tableswitch 246 0 17 #[87, 95, 103, 111, 119, 127, 135, 142, 149, 156, 163, 170, 178, 189, 208, 219, 230, 238], 87, 0, []) (List.mem_of_getElem? (i := 1) rfl)) (by rw [hc218ξ]; decide) (by rw [hc218ξ]; decide) (by rw [hc218ξ]; decide) rfl ?_
    refine zp_load (pc := 120) hx hb (zd_X11_count (120, .aload_n 0, 1, 0, []) (List.mem_of_getElem? (i := 18) rfl)) rfl (j := 0) rfl ?_
    refine zp_getf (n := (A 3 : Int)) (pc := 121) hx hb hEξ hwξ (zd_X11_count (121, .getfield 23, 3, 0, []) (List.mem_of_getElem? (i := 19) rfl)) (j := 52) rfl rfl rfl (zM_P hMξ (hYbξ _ (List.mem_of_getElem? (i := 0) rfl))) ((zM_G hMξ (hYbξ _ (List.mem_of_getElem? (i := 0) rfl)) 2).trans (zM_F hMξ (hFbξ _ (List.mem_of_getElem? (i := 2) rfl)))) ?_
    refine zp_getf (n := (V 3 3)) (pc := 124) hx hb hEξ hwξ (zd_X11_count (124, .getfield 437, 3, 0, []) (List.mem_of_getElem? (i := 20) rfl)) (j := 26) rfl rfl rfl (zM_P hMξ (hYbξ _ (List.mem_of_getElem? (i := 3) rfl))) ((zM_G hMξ (hYbξ _ (List.mem_of_getElem? (i := 3) rfl)) 3).trans (hVξ 3 3 (by decide))) ?_
    refine zp_kn (k := 3) (a := (A 3)) hwξ (show zp_fd 11 3 = some (10, 0, 0, 0, 16) from rfl) rfl (zM_P hMξ (hYbξ _ (List.mem_of_getElem? (i := 3) rfl))) (fun hf219ξ => ?_)
    have hf219bξ := zp_int hf219ξ
    rw [((zM_G hMξ (hYbξ _ (List.mem_of_getElem? (i := 3) rfl)) 3).trans (hVξ 3 3 (by decide)))] at hf219bξ
    clear hf219ξ
    refine zp_iret (pc := 127) (n := (V 3 3)) hx hb hEξ hQξ hU5ξ rfl (by decide) (zd_X11_count (127, .ireturn, 1, 0, []) (List.mem_of_getElem? (i := 21) rfl)) (j := 0) rfl (zp_o0 (by omega) (by omega) (by omega) (by omega)) ?_
    rw [hpsξ]
    refine ⟨rfl, ?_⟩
    have hffξ : zf_cntc V p1ξ = ((V 3 3), V) := by
      unfold zf_cntc
      rw [if_neg hc210ξ, if_neg hc212ξ, if_neg hc214ξ, if_neg hc216ξ, if_pos hc218ξ]
    show zMVc A Y F (zf_cntc V p1ξ).2 u.1 (zp_n u.2.1) ∧ (V 3 3) = (zf_cntc V p1ξ).1
    rw [hffξ]
    exact ⟨⟨M, hMξ, hVξ, trivial⟩, rfl⟩
  by_cases hc220ξ : p1ξ = 5
  · refine zp_tin (tgt := 128) (off := 127) (pc := 1) hx hb (zd_X11_count (1, .tableswitch 246 0 17 #[87, 95, 103, 111, 119, 127, 135, 142, 149, 156, 163, 170, 178, 189, 208, 219, 230, 238], 87, 0, []) (List.mem_of_getElem? (i := 1) rfl)) (by rw [hc220ξ]; decide) (by rw [hc220ξ]; decide) (by rw [hc220ξ]; decide) rfl ?_
    refine zp_load (pc := 128) hx hb (zd_X11_count (128, .aload_n 0, 1, 0, []) (List.mem_of_getElem? (i := 22) rfl)) rfl (j := 0) rfl ?_
    refine zp_getf (n := (A 11 : Int)) (pc := 129) hx hb hEξ hwξ (zd_X11_count (129, .getfield 67, 3, 0, []) (List.mem_of_getElem? (i := 23) rfl)) (j := 58) rfl rfl rfl (zM_P hMξ (hYbξ _ (List.mem_of_getElem? (i := 0) rfl))) ((zM_G hMξ (hYbξ _ (List.mem_of_getElem? (i := 0) rfl)) 8).trans (zM_F hMξ (hFbξ _ (List.mem_of_getElem? (i := 6) rfl)))) ?_
    refine zp_getf (n := (V 11 1)) (pc := 132) hx hb hEξ hwξ (zd_X11_count (132, .getfield 193, 3, 0, []) (List.mem_of_getElem? (i := 24) rfl)) (j := 39) rfl rfl rfl (zM_P hMξ (hYbξ _ (List.mem_of_getElem? (i := 11) rfl))) ((zM_G hMξ (hYbξ _ (List.mem_of_getElem? (i := 11) rfl)) 1).trans (hVξ 11 1 (by decide))) ?_
    refine zp_kn (k := 1) (a := (A 11)) hwξ (show zp_fd 7 1 = some (7, 0, 0, 0, 400) from rfl) rfl (zM_P hMξ (hYbξ _ (List.mem_of_getElem? (i := 11) rfl))) (fun hf221ξ => ?_)
    have hf221bξ := zp_int hf221ξ
    rw [((zM_G hMξ (hYbξ _ (List.mem_of_getElem? (i := 11) rfl)) 1).trans (hVξ 11 1 (by decide)))] at hf221bξ
    clear hf221ξ
    refine zp_iret (pc := 135) (n := (V 11 1)) hx hb hEξ hQξ hU5ξ rfl (by decide) (zd_X11_count (135, .ireturn, 1, 0, []) (List.mem_of_getElem? (i := 25) rfl)) (j := 0) rfl (zp_o0 (by omega) (by omega) (by omega) (by omega)) ?_
    rw [hpsξ]
    refine ⟨rfl, ?_⟩
    have hffξ : zf_cntc V p1ξ = ((V 11 1), V) := by
      unfold zf_cntc
      rw [if_neg hc210ξ, if_neg hc212ξ, if_neg hc214ξ, if_neg hc216ξ, if_neg hc218ξ, if_pos hc220ξ]
    show zMVc A Y F (zf_cntc V p1ξ).2 u.1 (zp_n u.2.1) ∧ (V 11 1) = (zf_cntc V p1ξ).1
    rw [hffξ]
    exact ⟨⟨M, hMξ, hVξ, trivial⟩, rfl⟩
  by_cases hc222ξ : p1ξ = 6
  · refine zp_tin (tgt := 136) (off := 135) (pc := 1) hx hb (zd_X11_count (1, .tableswitch 246 0 17 #[87, 95, 103, 111, 119, 127, 135, 142, 149, 156, 163, 170, 178, 189, 208, 219, 230, 238], 87, 0, []) (List.mem_of_getElem? (i := 1) rfl)) (by rw [hc222ξ]; decide) (by rw [hc222ξ]; decide) (by rw [hc222ξ]; decide) rfl ?_
    refine zp_load (pc := 136) hx hb (zd_X11_count (136, .aload_n 0, 1, 0, []) (List.mem_of_getElem? (i := 26) rfl)) rfl (j := 0) rfl ?_
    refine zp_getf (n := (A 20 : Int)) (pc := 137) hx hb hEξ hwξ (zd_X11_count (137, .getfield 104, 3, 0, []) (List.mem_of_getElem? (i := 27) rfl)) (j := 69) rfl rfl rfl (zM_P hMξ (hYbξ _ (List.mem_of_getElem? (i := 0) rfl))) ((zM_G hMξ (hYbξ _ (List.mem_of_getElem? (i := 0) rfl)) 19).trans (zM_F hMξ (hFbξ _ (List.mem_of_getElem? (i := 12) rfl)))) ?_
    refine zp_const (pc := 140) hx hb (zd_X11_count (140, .iconst 0, 1, 0, []) (List.mem_of_getElem? (i := 28) rfl)) rfl rfl ?_
    refine zp_iald (j := 0) (v := (V 20 (2000 + 0))) (pc := 141) hx hb hwξ (zd_X11_count (141, .iaload, 1, 0, []) (List.mem_of_getElem? (i := 29) rfl)) (show zp_ia 1 57 = some (5, 0, 0, (-2147483648), 2147483647) from rfl) (zM_P hMξ (hYbξ _ (List.mem_of_getElem? (i := 14) rfl))) (by omega) (by omega) ((zM_G hMξ (hYbξ _ (List.mem_of_getElem? (i := 14) rfl)) (2000 + 0)).trans (hVξ 20 (2000 + 0) (by decide))) (fun hk223ξ => ?_)
    have hk223bξ := zp_int hk223ξ
    clear hk223ξ
    refine zp_iret (pc := 142) (n := (V 20 (2000 + 0))) hx hb hEξ hQξ hU5ξ rfl (by decide) (zd_X11_count (142, .ireturn, 1, 0, []) (List.mem_of_getElem? (i := 30) rfl)) (j := 0) rfl (zp_o0 (by omega) (by omega) (by omega) (by omega)) ?_
    rw [hpsξ]
    refine ⟨rfl, ?_⟩
    have hffξ : zf_cntc V p1ξ = ((V 20 (2000 + 0)), V) := by
      unfold zf_cntc
      rw [if_neg hc210ξ, if_neg hc212ξ, if_neg hc214ξ, if_neg hc216ξ, if_neg hc218ξ, if_neg hc220ξ, if_pos hc222ξ]
    show zMVc A Y F (zf_cntc V p1ξ).2 u.1 (zp_n u.2.1) ∧ (V 20 (2000 + 0)) = (zf_cntc V p1ξ).1
    rw [hffξ]
    exact ⟨⟨M, hMξ, hVξ, trivial⟩, rfl⟩
  by_cases hc224ξ : p1ξ = 7
  · refine zp_tin (tgt := 143) (off := 142) (pc := 1) hx hb (zd_X11_count (1, .tableswitch 246 0 17 #[87, 95, 103, 111, 119, 127, 135, 142, 149, 156, 163, 170, 178, 189, 208, 219, 230, 238], 87, 0, []) (List.mem_of_getElem? (i := 1) rfl)) (by rw [hc224ξ]; decide) (by rw [hc224ξ]; decide) (by rw [hc224ξ]; decide) rfl ?_
    refine zp_load (pc := 143) hx hb (zd_X11_count (143, .aload_n 0, 1, 0, []) (List.mem_of_getElem? (i := 31) rfl)) rfl (j := 0) rfl ?_
    refine zp_getf (n := (A 20 : Int)) (pc := 144) hx hb hEξ hwξ (zd_X11_count (144, .getfield 104, 3, 0, []) (List.mem_of_getElem? (i := 32) rfl)) (j := 69) rfl rfl rfl (zM_P hMξ (hYbξ _ (List.mem_of_getElem? (i := 0) rfl))) ((zM_G hMξ (hYbξ _ (List.mem_of_getElem? (i := 0) rfl)) 19).trans (zM_F hMξ (hFbξ _ (List.mem_of_getElem? (i := 12) rfl)))) ?_
    refine zp_const (pc := 147) hx hb (zd_X11_count (147, .iconst 1, 1, 0, []) (List.mem_of_getElem? (i := 33) rfl)) rfl rfl ?_
    refine zp_iald (j := 1) (v := (V 20 (2000 + 1))) (pc := 148) hx hb hwξ (zd_X11_count (148, .iaload, 1, 0, []) (List.mem_of_getElem? (i := 34) rfl)) (show zp_ia 1 57 = some (5, 0, 0, (-2147483648), 2147483647) from rfl) (zM_P hMξ (hYbξ _ (List.mem_of_getElem? (i := 14) rfl))) (by omega) (by omega) ((zM_G hMξ (hYbξ _ (List.mem_of_getElem? (i := 14) rfl)) (2000 + 1)).trans (hVξ 20 (2000 + 1) (by decide))) (fun hk225ξ => ?_)
    have hk225bξ := zp_int hk225ξ
    clear hk225ξ
    refine zp_iret (pc := 149) (n := (V 20 (2000 + 1))) hx hb hEξ hQξ hU5ξ rfl (by decide) (zd_X11_count (149, .ireturn, 1, 0, []) (List.mem_of_getElem? (i := 35) rfl)) (j := 0) rfl (zp_o0 (by omega) (by omega) (by omega) (by omega)) ?_
    rw [hpsξ]
    refine ⟨rfl, ?_⟩
    have hffξ : zf_cntc V p1ξ = ((V 20 (2000 + 1)), V) := by
      unfold zf_cntc
      rw [if_neg hc210ξ, if_neg hc212ξ, if_neg hc214ξ, if_neg hc216ξ, if_neg hc218ξ, if_neg hc220ξ, if_neg hc222ξ, if_pos hc224ξ]
    show zMVc A Y F (zf_cntc V p1ξ).2 u.1 (zp_n u.2.1) ∧ (V 20 (2000 + 1)) = (zf_cntc V p1ξ).1
    rw [hffξ]
    exact ⟨⟨M, hMξ, hVξ, trivial⟩, rfl⟩
  by_cases hc226ξ : p1ξ = 8
  · refine zp_tin (tgt := 150) (off := 149) (pc := 1) hx hb (zd_X11_count (1, .tableswitch 246 0 17 #[87, 95, 103, 111, 119, 127, 135, 142, 149, 156, 163, 170, 178, 189, 208, 219, 230, 238], 87, 0, []) (List.mem_of_getElem? (i := 1) rfl)) (by rw [hc226ξ]; decide) (by rw [hc226ξ]; decide) (by rw [hc226ξ]; decide) rfl ?_
    refine zp_load (pc := 150) hx hb (zd_X11_count (150, .aload_n 0, 1, 0, []) (List.mem_of_getElem? (i := 36) rfl)) rfl (j := 0) rfl ?_
    refine zp_getf (n := (A 20 : Int)) (pc := 151) hx hb hEξ hwξ (zd_X11_count (151, .getfield 104, 3, 0, []) (List.mem_of_getElem? (i := 37) rfl)) (j := 69) rfl rfl rfl (zM_P hMξ (hYbξ _ (List.mem_of_getElem? (i := 0) rfl))) ((zM_G hMξ (hYbξ _ (List.mem_of_getElem? (i := 0) rfl)) 19).trans (zM_F hMξ (hFbξ _ (List.mem_of_getElem? (i := 12) rfl)))) ?_
    refine zp_const (pc := 154) hx hb (zd_X11_count (154, .iconst 2, 1, 0, []) (List.mem_of_getElem? (i := 38) rfl)) rfl rfl ?_
    refine zp_iald (j := 2) (v := (V 20 (2000 + 2))) (pc := 155) hx hb hwξ (zd_X11_count (155, .iaload, 1, 0, []) (List.mem_of_getElem? (i := 39) rfl)) (show zp_ia 1 57 = some (5, 0, 0, (-2147483648), 2147483647) from rfl) (zM_P hMξ (hYbξ _ (List.mem_of_getElem? (i := 14) rfl))) (by omega) (by omega) ((zM_G hMξ (hYbξ _ (List.mem_of_getElem? (i := 14) rfl)) (2000 + 2)).trans (hVξ 20 (2000 + 2) (by decide))) (fun hk227ξ => ?_)
    have hk227bξ := zp_int hk227ξ
    clear hk227ξ
    refine zp_iret (pc := 156) (n := (V 20 (2000 + 2))) hx hb hEξ hQξ hU5ξ rfl (by decide) (zd_X11_count (156, .ireturn, 1, 0, []) (List.mem_of_getElem? (i := 40) rfl)) (j := 0) rfl (zp_o0 (by omega) (by omega) (by omega) (by omega)) ?_
    rw [hpsξ]
    refine ⟨rfl, ?_⟩
    have hffξ : zf_cntc V p1ξ = ((V 20 (2000 + 2)), V) := by
      unfold zf_cntc
      rw [if_neg hc210ξ, if_neg hc212ξ, if_neg hc214ξ, if_neg hc216ξ, if_neg hc218ξ, if_neg hc220ξ, if_neg hc222ξ, if_neg hc224ξ, if_pos hc226ξ]
    show zMVc A Y F (zf_cntc V p1ξ).2 u.1 (zp_n u.2.1) ∧ (V 20 (2000 + 2)) = (zf_cntc V p1ξ).1
    rw [hffξ]
    exact ⟨⟨M, hMξ, hVξ, trivial⟩, rfl⟩
  by_cases hc228ξ : p1ξ = 9
  · refine zp_tin (tgt := 157) (off := 156) (pc := 1) hx hb (zd_X11_count (1, .tableswitch 246 0 17 #[87, 95, 103, 111, 119, 127, 135, 142, 149, 156, 163, 170, 178, 189, 208, 219, 230, 238], 87, 0, []) (List.mem_of_getElem? (i := 1) rfl)) (by rw [hc228ξ]; decide) (by rw [hc228ξ]; decide) (by rw [hc228ξ]; decide) rfl ?_
    refine zp_load (pc := 157) hx hb (zd_X11_count (157, .aload_n 0, 1, 0, []) (List.mem_of_getElem? (i := 41) rfl)) rfl (j := 0) rfl ?_
    refine zp_getf (n := (A 20 : Int)) (pc := 158) hx hb hEξ hwξ (zd_X11_count (158, .getfield 104, 3, 0, []) (List.mem_of_getElem? (i := 42) rfl)) (j := 69) rfl rfl rfl (zM_P hMξ (hYbξ _ (List.mem_of_getElem? (i := 0) rfl))) ((zM_G hMξ (hYbξ _ (List.mem_of_getElem? (i := 0) rfl)) 19).trans (zM_F hMξ (hFbξ _ (List.mem_of_getElem? (i := 12) rfl)))) ?_
    refine zp_const (pc := 161) hx hb (zd_X11_count (161, .iconst 3, 1, 0, []) (List.mem_of_getElem? (i := 43) rfl)) rfl rfl ?_
    refine zp_iald (j := 3) (v := (V 20 (2000 + 3))) (pc := 162) hx hb hwξ (zd_X11_count (162, .iaload, 1, 0, []) (List.mem_of_getElem? (i := 44) rfl)) (show zp_ia 1 57 = some (5, 0, 0, (-2147483648), 2147483647) from rfl) (zM_P hMξ (hYbξ _ (List.mem_of_getElem? (i := 14) rfl))) (by omega) (by omega) ((zM_G hMξ (hYbξ _ (List.mem_of_getElem? (i := 14) rfl)) (2000 + 3)).trans (hVξ 20 (2000 + 3) (by decide))) (fun hk229ξ => ?_)
    have hk229bξ := zp_int hk229ξ
    clear hk229ξ
    refine zp_iret (pc := 163) (n := (V 20 (2000 + 3))) hx hb hEξ hQξ hU5ξ rfl (by decide) (zd_X11_count (163, .ireturn, 1, 0, []) (List.mem_of_getElem? (i := 45) rfl)) (j := 0) rfl (zp_o0 (by omega) (by omega) (by omega) (by omega)) ?_
    rw [hpsξ]
    refine ⟨rfl, ?_⟩
    have hffξ : zf_cntc V p1ξ = ((V 20 (2000 + 3)), V) := by
      unfold zf_cntc
      rw [if_neg hc210ξ, if_neg hc212ξ, if_neg hc214ξ, if_neg hc216ξ, if_neg hc218ξ, if_neg hc220ξ, if_neg hc222ξ, if_neg hc224ξ, if_neg hc226ξ, if_pos hc228ξ]
    show zMVc A Y F (zf_cntc V p1ξ).2 u.1 (zp_n u.2.1) ∧ (V 20 (2000 + 3)) = (zf_cntc V p1ξ).1
    rw [hffξ]
    exact ⟨⟨M, hMξ, hVξ, trivial⟩, rfl⟩
  by_cases hc230ξ : p1ξ = 10
  · refine zp_tin (tgt := 164) (off := 163) (pc := 1) hx hb (zd_X11_count (1, .tableswitch 246 0 17 #[87, 95, 103, 111, 119, 127, 135, 142, 149, 156, 163, 170, 178, 189, 208, 219, 230, 238], 87, 0, []) (List.mem_of_getElem? (i := 1) rfl)) (by rw [hc230ξ]; decide) (by rw [hc230ξ]; decide) (by rw [hc230ξ]; decide) rfl ?_
    refine zp_load (pc := 164) hx hb (zd_X11_count (164, .aload_n 0, 1, 0, []) (List.mem_of_getElem? (i := 46) rfl)) rfl (j := 0) rfl ?_
    refine zp_getf (n := (A 20 : Int)) (pc := 165) hx hb hEξ hwξ (zd_X11_count (165, .getfield 104, 3, 0, []) (List.mem_of_getElem? (i := 47) rfl)) (j := 69) rfl rfl rfl (zM_P hMξ (hYbξ _ (List.mem_of_getElem? (i := 0) rfl))) ((zM_G hMξ (hYbξ _ (List.mem_of_getElem? (i := 0) rfl)) 19).trans (zM_F hMξ (hFbξ _ (List.mem_of_getElem? (i := 12) rfl)))) ?_
    refine zp_const (pc := 168) hx hb (zd_X11_count (168, .iconst 4, 1, 0, []) (List.mem_of_getElem? (i := 48) rfl)) rfl rfl ?_
    refine zp_iald (j := 4) (v := (V 20 (2000 + 4))) (pc := 169) hx hb hwξ (zd_X11_count (169, .iaload, 1, 0, []) (List.mem_of_getElem? (i := 49) rfl)) (show zp_ia 1 57 = some (5, 0, 0, (-2147483648), 2147483647) from rfl) (zM_P hMξ (hYbξ _ (List.mem_of_getElem? (i := 14) rfl))) (by omega) (by omega) ((zM_G hMξ (hYbξ _ (List.mem_of_getElem? (i := 14) rfl)) (2000 + 4)).trans (hVξ 20 (2000 + 4) (by decide))) (fun hk231ξ => ?_)
    have hk231bξ := zp_int hk231ξ
    clear hk231ξ
    refine zp_iret (pc := 170) (n := (V 20 (2000 + 4))) hx hb hEξ hQξ hU5ξ rfl (by decide) (zd_X11_count (170, .ireturn, 1, 0, []) (List.mem_of_getElem? (i := 50) rfl)) (j := 0) rfl (zp_o0 (by omega) (by omega) (by omega) (by omega)) ?_
    rw [hpsξ]
    refine ⟨rfl, ?_⟩
    have hffξ : zf_cntc V p1ξ = ((V 20 (2000 + 4)), V) := by
      unfold zf_cntc
      rw [if_neg hc210ξ, if_neg hc212ξ, if_neg hc214ξ, if_neg hc216ξ, if_neg hc218ξ, if_neg hc220ξ, if_neg hc222ξ, if_neg hc224ξ, if_neg hc226ξ, if_neg hc228ξ, if_pos hc230ξ]
    show zMVc A Y F (zf_cntc V p1ξ).2 u.1 (zp_n u.2.1) ∧ (V 20 (2000 + 4)) = (zf_cntc V p1ξ).1
    rw [hffξ]
    exact ⟨⟨M, hMξ, hVξ, trivial⟩, rfl⟩
  by_cases hc232ξ : p1ξ = 11
  · refine zp_tin (tgt := 171) (off := 170) (pc := 1) hx hb (zd_X11_count (1, .tableswitch 246 0 17 #[87, 95, 103, 111, 119, 127, 135, 142, 149, 156, 163, 170, 178, 189, 208, 219, 230, 238], 87, 0, []) (List.mem_of_getElem? (i := 1) rfl)) (by rw [hc232ξ]; decide) (by rw [hc232ξ]; decide) (by rw [hc232ξ]; decide) rfl ?_
    refine zp_load (pc := 171) hx hb (zd_X11_count (171, .aload_n 0, 1, 0, []) (List.mem_of_getElem? (i := 51) rfl)) rfl (j := 0) rfl ?_
    refine zp_getf (n := (A 1 : Int)) (pc := 172) hx hb hEξ hwξ (zd_X11_count (172, .getfield 10, 3, 0, []) (List.mem_of_getElem? (i := 52) rfl)) (j := 50) rfl rfl rfl (zM_P hMξ (hYbξ _ (List.mem_of_getElem? (i := 0) rfl))) ((zM_G hMξ (hYbξ _ (List.mem_of_getElem? (i := 0) rfl)) 0).trans (zM_F hMξ (hFbξ _ (List.mem_of_getElem? (i := 0) rfl)))) ?_
    refine zp_getf (n := (V 1 15)) (pc := 175) hx hb hEξ hwξ (zd_X11_count (175, .getfield 289, 3, 0, []) (List.mem_of_getElem? (i := 53) rfl)) (j := 21) rfl rfl rfl (zM_P hMξ (hYbξ _ (List.mem_of_getElem? (i := 1) rfl))) ((zM_G hMξ (hYbξ _ (List.mem_of_getElem? (i := 1) rfl)) 15).trans (hVξ 1 15 (by decide))) ?_
    refine zp_kn (k := 15) (a := (A 1)) hwξ (show zp_fd 10 15 = some (9, 0, 0, (-2147483648), 2147483647) from rfl) rfl (zM_P hMξ (hYbξ _ (List.mem_of_getElem? (i := 1) rfl))) (fun hf233ξ => ?_)
    have hf233bξ := zp_int hf233ξ
    rw [((zM_G hMξ (hYbξ _ (List.mem_of_getElem? (i := 1) rfl)) 15).trans (hVξ 1 15 (by decide)))] at hf233bξ
    clear hf233ξ
    refine zp_iret (pc := 178) (n := (V 1 15)) hx hb hEξ hQξ hU5ξ rfl (by decide) (zd_X11_count (178, .ireturn, 1, 0, []) (List.mem_of_getElem? (i := 54) rfl)) (j := 0) rfl (zp_o0 (by omega) (by omega) (by omega) (by omega)) ?_
    rw [hpsξ]
    refine ⟨rfl, ?_⟩
    have hffξ : zf_cntc V p1ξ = ((V 1 15), V) := by
      unfold zf_cntc
      rw [if_neg hc210ξ, if_neg hc212ξ, if_neg hc214ξ, if_neg hc216ξ, if_neg hc218ξ, if_neg hc220ξ, if_neg hc222ξ, if_neg hc224ξ, if_neg hc226ξ, if_neg hc228ξ, if_neg hc230ξ, if_pos hc232ξ]
    show zMVc A Y F (zf_cntc V p1ξ).2 u.1 (zp_n u.2.1) ∧ (V 1 15) = (zf_cntc V p1ξ).1
    rw [hffξ]
    exact ⟨⟨M, hMξ, hVξ, trivial⟩, rfl⟩
  by_cases hc234ξ : p1ξ = 12
  · refine zp_tin (tgt := 179) (off := 178) (pc := 1) hx hb (zd_X11_count (1, .tableswitch 246 0 17 #[87, 95, 103, 111, 119, 127, 135, 142, 149, 156, 163, 170, 178, 189, 208, 219, 230, 238], 87, 0, []) (List.mem_of_getElem? (i := 1) rfl)) (by rw [hc234ξ]; decide) (by rw [hc234ξ]; decide) (by rw [hc234ξ]; decide) rfl ?_
    refine zp_load (pc := 179) hx hb (zd_X11_count (179, .aload_n 0, 1, 0, []) (List.mem_of_getElem? (i := 55) rfl)) rfl (j := 0) rfl ?_
    refine zp_getf (n := (A 1 : Int)) (pc := 180) hx hb hEξ hwξ (zd_X11_count (180, .getfield 10, 3, 0, []) (List.mem_of_getElem? (i := 56) rfl)) (j := 50) rfl rfl rfl (zM_P hMξ (hYbξ _ (List.mem_of_getElem? (i := 0) rfl))) ((zM_G hMξ (hYbξ _ (List.mem_of_getElem? (i := 0) rfl)) 0).trans (zM_F hMξ (hFbξ _ (List.mem_of_getElem? (i := 0) rfl)))) ?_
    refine zp_getf (n := (A 2 : Int)) (pc := 183) hx hb hEξ hwξ (zd_X11_count (183, .getfield 135, 3, 0, []) (List.mem_of_getElem? (i := 57) rfl)) (j := 24) rfl rfl rfl (zM_P hMξ (hYbξ _ (List.mem_of_getElem? (i := 1) rfl))) ((zM_G hMξ (hYbξ _ (List.mem_of_getElem? (i := 1) rfl)) 18).trans (zM_F hMξ (hFbξ _ (List.mem_of_getElem? (i := 24) rfl)))) ?_
    refine zp_getf (n := (V 2 3)) (pc := 186) hx hb hEξ hwξ (zd_X11_count (186, .getfield 283, 3, 0, []) (List.mem_of_getElem? (i := 58) rfl)) (j := 5) rfl rfl rfl (zM_P hMξ (hYbξ _ (List.mem_of_getElem? (i := 2) rfl))) ((zM_G hMξ (hYbξ _ (List.mem_of_getElem? (i := 2) rfl)) 3).trans (hVξ 2 3 (by decide))) ?_
    refine zp_kn (k := 3) (a := (A 2)) hwξ (show zp_fd 2 3 = some (2, 0, 0, (-2147483648), 2147483647) from rfl) rfl (zM_P hMξ (hYbξ _ (List.mem_of_getElem? (i := 2) rfl))) (fun hf235ξ => ?_)
    have hf235bξ := zp_int hf235ξ
    rw [((zM_G hMξ (hYbξ _ (List.mem_of_getElem? (i := 2) rfl)) 3).trans (hVξ 2 3 (by decide)))] at hf235bξ
    clear hf235ξ
    refine zp_iret (pc := 189) (n := (V 2 3)) hx hb hEξ hQξ hU5ξ rfl (by decide) (zd_X11_count (189, .ireturn, 1, 0, []) (List.mem_of_getElem? (i := 59) rfl)) (j := 0) rfl (zp_o0 (by omega) (by omega) (by omega) (by omega)) ?_
    rw [hpsξ]
    refine ⟨rfl, ?_⟩
    have hffξ : zf_cntc V p1ξ = ((V 2 3), V) := by
      unfold zf_cntc
      rw [if_neg hc210ξ, if_neg hc212ξ, if_neg hc214ξ, if_neg hc216ξ, if_neg hc218ξ, if_neg hc220ξ, if_neg hc222ξ, if_neg hc224ξ, if_neg hc226ξ, if_neg hc228ξ, if_neg hc230ξ, if_neg hc232ξ, if_pos hc234ξ]
    show zMVc A Y F (zf_cntc V p1ξ).2 u.1 (zp_n u.2.1) ∧ (V 2 3) = (zf_cntc V p1ξ).1
    rw [hffξ]
    exact ⟨⟨M, hMξ, hVξ, trivial⟩, rfl⟩
  by_cases hc236ξ : p1ξ = 13
  · refine zp_tin (tgt := 190) (off := 189) (pc := 1) hx hb (zd_X11_count (1, .tableswitch 246 0 17 #[87, 95, 103, 111, 119, 127, 135, 142, 149, 156, 163, 170, 178, 189, 208, 219, 230, 238], 87, 0, []) (List.mem_of_getElem? (i := 1) rfl)) (by rw [hc236ξ]; decide) (by rw [hc236ξ]; decide) (by rw [hc236ξ]; decide) rfl ?_
    refine zp_load (pc := 190) hx hb (zd_X11_count (190, .aload_n 0, 1, 0, []) (List.mem_of_getElem? (i := 60) rfl)) rfl (j := 0) rfl ?_
    refine zp_getf (n := (A 1 : Int)) (pc := 191) hx hb hEξ hwξ (zd_X11_count (191, .getfield 10, 3, 0, []) (List.mem_of_getElem? (i := 61) rfl)) (j := 50) rfl rfl rfl (zM_P hMξ (hYbξ _ (List.mem_of_getElem? (i := 0) rfl))) ((zM_G hMξ (hYbξ _ (List.mem_of_getElem? (i := 0) rfl)) 0).trans (zM_F hMξ (hFbξ _ (List.mem_of_getElem? (i := 0) rfl)))) ?_
    refine zp_getf (n := (A 2 : Int)) (pc := 194) hx hb hEξ hwξ (zd_X11_count (194, .getfield 135, 3, 0, []) (List.mem_of_getElem? (i := 62) rfl)) (j := 24) rfl rfl rfl (zM_P hMξ (hYbξ _ (List.mem_of_getElem? (i := 1) rfl))) ((zM_G hMξ (hYbξ _ (List.mem_of_getElem? (i := 1) rfl)) 18).trans (zM_F hMξ (hFbξ _ (List.mem_of_getElem? (i := 24) rfl)))) ?_
    refine zp_getf (n := (V 2 4)) (pc := 197) hx hb hEξ hwξ (zd_X11_count (197, .getfield 308, 3, 0, []) (List.mem_of_getElem? (i := 63) rfl)) (j := 6) rfl rfl rfl (zM_P hMξ (hYbξ _ (List.mem_of_getElem? (i := 2) rfl))) ((zM_G hMξ (hYbξ _ (List.mem_of_getElem? (i := 2) rfl)) 4).trans (hVξ 2 4 (by decide))) ?_
    refine zp_kn (k := 4) (a := (A 2)) hwξ (show zp_fd 2 4 = some (2, 0, 0, 0, 1) from rfl) rfl (zM_P hMξ (hYbξ _ (List.mem_of_getElem? (i := 2) rfl))) (fun hf237ξ => ?_)
    have hf237bξ := zp_int hf237ξ
    rw [((zM_G hMξ (hYbξ _ (List.mem_of_getElem? (i := 2) rfl)) 4).trans (hVξ 2 4 (by decide)))] at hf237bξ
    clear hf237ξ
    refine zp_if (pc := 200) (tgt := 207) hx hb (zd_X11_count (200, .ifCond .eq 7, 3, 0, []) (List.mem_of_getElem? (i := 64) rfl)) rfl (fun (hc238ξ : (V 2 4) = 0) => ?_) (fun (hc238ξ : ¬ ((V 2 4) = 0)) => ?_)
    · refine zp_const (pc := 207) hx hb (zd_X11_count (207, .iconst 0, 1, 0, []) (List.mem_of_getElem? (i := 67) rfl)) rfl rfl ?_
      refine zp_iret (pc := 208) (n := 0) hx hb hEξ hQξ hU5ξ rfl (by decide) (zd_X11_count (208, .ireturn, 1, 0, []) (List.mem_of_getElem? (i := 68) rfl)) (j := 0) rfl (zp_o0 (by omega) (by omega) (by omega) (by omega)) ?_
      rw [hpsξ]
      refine ⟨rfl, ?_⟩
      have hffξ : zf_cntc V p1ξ = (0, V) := by
        unfold zf_cntc
        rw [if_neg hc210ξ, if_neg hc212ξ, if_neg hc214ξ, if_neg hc216ξ, if_neg hc218ξ, if_neg hc220ξ, if_neg hc222ξ, if_neg hc224ξ, if_neg hc226ξ, if_neg hc228ξ, if_neg hc230ξ, if_neg hc232ξ, if_neg hc234ξ, if_pos hc236ξ, if_pos hc238ξ]
      show zMVc A Y F (zf_cntc V p1ξ).2 u.1 (zp_n u.2.1) ∧ 0 = (zf_cntc V p1ξ).1
      rw [hffξ]
      exact ⟨⟨M, hMξ, hVξ, trivial⟩, rfl⟩
    · refine zp_const (pc := 203) hx hb (zd_X11_count (203, .iconst 1, 1, 0, []) (List.mem_of_getElem? (i := 65) rfl)) rfl rfl ?_
      refine zp_goto (tgt := 208) (pc := 204) hx hb (zd_X11_count (204, .goto 4, 3, 0, []) (List.mem_of_getElem? (i := 66) rfl)) rfl ?_
      refine zp_iret (pc := 208) (n := 1) hx hb hEξ hQξ hU5ξ rfl (by decide) (zd_X11_count (208, .ireturn, 1, 0, []) (List.mem_of_getElem? (i := 68) rfl)) (j := 0) rfl (zp_o0 (by omega) (by omega) (by omega) (by omega)) ?_
      rw [hpsξ]
      refine ⟨rfl, ?_⟩
      have hffξ : zf_cntc V p1ξ = (1, V) := by
        unfold zf_cntc
        rw [if_neg hc210ξ, if_neg hc212ξ, if_neg hc214ξ, if_neg hc216ξ, if_neg hc218ξ, if_neg hc220ξ, if_neg hc222ξ, if_neg hc224ξ, if_neg hc226ξ, if_neg hc228ξ, if_neg hc230ξ, if_neg hc232ξ, if_neg hc234ξ, if_pos hc236ξ, if_neg hc238ξ]
      show zMVc A Y F (zf_cntc V p1ξ).2 u.1 (zp_n u.2.1) ∧ 1 = (zf_cntc V p1ξ).1
      rw [hffξ]
      exact ⟨⟨M, hMξ, hVξ, trivial⟩, rfl⟩
  by_cases hc239ξ : p1ξ = 14
  · refine zp_tin (tgt := 209) (off := 208) (pc := 1) hx hb (zd_X11_count (1, .tableswitch 246 0 17 #[87, 95, 103, 111, 119, 127, 135, 142, 149, 156, 163, 170, 178, 189, 208, 219, 230, 238], 87, 0, []) (List.mem_of_getElem? (i := 1) rfl)) (by rw [hc239ξ]; decide) (by rw [hc239ξ]; decide) (by rw [hc239ξ]; decide) rfl ?_
    refine zp_load (pc := 209) hx hb (zd_X11_count (209, .aload_n 0, 1, 0, []) (List.mem_of_getElem? (i := 69) rfl)) rfl (j := 0) rfl ?_
    refine zp_getf (n := (A 1 : Int)) (pc := 210) hx hb hEξ hwξ (zd_X11_count (210, .getfield 10, 3, 0, []) (List.mem_of_getElem? (i := 70) rfl)) (j := 50) rfl rfl rfl (zM_P hMξ (hYbξ _ (List.mem_of_getElem? (i := 0) rfl))) ((zM_G hMξ (hYbξ _ (List.mem_of_getElem? (i := 0) rfl)) 0).trans (zM_F hMξ (hFbξ _ (List.mem_of_getElem? (i := 0) rfl)))) ?_
    refine zp_getf (n := (A 2 : Int)) (pc := 213) hx hb hEξ hwξ (zd_X11_count (213, .getfield 135, 3, 0, []) (List.mem_of_getElem? (i := 71) rfl)) (j := 24) rfl rfl rfl (zM_P hMξ (hYbξ _ (List.mem_of_getElem? (i := 1) rfl))) ((zM_G hMξ (hYbξ _ (List.mem_of_getElem? (i := 1) rfl)) 18).trans (zM_F hMξ (hFbξ _ (List.mem_of_getElem? (i := 24) rfl)))) ?_
    refine zp_getf (n := (V 2 5)) (pc := 216) hx hb hEξ hwξ (zd_X11_count (216, .getfield 280, 3, 0, []) (List.mem_of_getElem? (i := 72) rfl)) (j := 7) rfl rfl rfl (zM_P hMξ (hYbξ _ (List.mem_of_getElem? (i := 2) rfl))) ((zM_G hMξ (hYbξ _ (List.mem_of_getElem? (i := 2) rfl)) 5).trans (hVξ 2 5 (by decide))) ?_
    refine zp_kn (k := 5) (a := (A 2)) hwξ (show zp_fd 2 5 = some (2, 0, 0, (-2147483648), 2147483647) from rfl) rfl (zM_P hMξ (hYbξ _ (List.mem_of_getElem? (i := 2) rfl))) (fun hf240ξ => ?_)
    have hf240bξ := zp_int hf240ξ
    rw [((zM_G hMξ (hYbξ _ (List.mem_of_getElem? (i := 2) rfl)) 5).trans (hVξ 2 5 (by decide)))] at hf240bξ
    clear hf240ξ
    refine zp_iret (pc := 219) (n := (V 2 5)) hx hb hEξ hQξ hU5ξ rfl (by decide) (zd_X11_count (219, .ireturn, 1, 0, []) (List.mem_of_getElem? (i := 73) rfl)) (j := 0) rfl (zp_o0 (by omega) (by omega) (by omega) (by omega)) ?_
    rw [hpsξ]
    refine ⟨rfl, ?_⟩
    have hffξ : zf_cntc V p1ξ = ((V 2 5), V) := by
      unfold zf_cntc
      rw [if_neg hc210ξ, if_neg hc212ξ, if_neg hc214ξ, if_neg hc216ξ, if_neg hc218ξ, if_neg hc220ξ, if_neg hc222ξ, if_neg hc224ξ, if_neg hc226ξ, if_neg hc228ξ, if_neg hc230ξ, if_neg hc232ξ, if_neg hc234ξ, if_neg hc236ξ, if_pos hc239ξ]
    show zMVc A Y F (zf_cntc V p1ξ).2 u.1 (zp_n u.2.1) ∧ (V 2 5) = (zf_cntc V p1ξ).1
    rw [hffξ]
    exact ⟨⟨M, hMξ, hVξ, trivial⟩, rfl⟩
  by_cases hc241ξ : p1ξ = 15
  · refine zp_tin (tgt := 220) (off := 219) (pc := 1) hx hb (zd_X11_count (1, .tableswitch 246 0 17 #[87, 95, 103, 111, 119, 127, 135, 142, 149, 156, 163, 170, 178, 189, 208, 219, 230, 238], 87, 0, []) (List.mem_of_getElem? (i := 1) rfl)) (by rw [hc241ξ]; decide) (by rw [hc241ξ]; decide) (by rw [hc241ξ]; decide) rfl ?_
    refine zp_load (pc := 220) hx hb (zd_X11_count (220, .aload_n 0, 1, 0, []) (List.mem_of_getElem? (i := 74) rfl)) rfl (j := 0) rfl ?_
    refine zp_getf (n := (A 1 : Int)) (pc := 221) hx hb hEξ hwξ (zd_X11_count (221, .getfield 10, 3, 0, []) (List.mem_of_getElem? (i := 75) rfl)) (j := 50) rfl rfl rfl (zM_P hMξ (hYbξ _ (List.mem_of_getElem? (i := 0) rfl))) ((zM_G hMξ (hYbξ _ (List.mem_of_getElem? (i := 0) rfl)) 0).trans (zM_F hMξ (hFbξ _ (List.mem_of_getElem? (i := 0) rfl)))) ?_
    refine zp_getf (n := (A 2 : Int)) (pc := 224) hx hb hEξ hwξ (zd_X11_count (224, .getfield 135, 3, 0, []) (List.mem_of_getElem? (i := 76) rfl)) (j := 24) rfl rfl rfl (zM_P hMξ (hYbξ _ (List.mem_of_getElem? (i := 1) rfl))) ((zM_G hMξ (hYbξ _ (List.mem_of_getElem? (i := 1) rfl)) 18).trans (zM_F hMξ (hFbξ _ (List.mem_of_getElem? (i := 24) rfl)))) ?_
    refine zp_getf (n := (V 2 6)) (pc := 227) hx hb hEξ hwξ (zd_X11_count (227, .getfield 178, 3, 0, []) (List.mem_of_getElem? (i := 77) rfl)) (j := 8) rfl rfl rfl (zM_P hMξ (hYbξ _ (List.mem_of_getElem? (i := 2) rfl))) ((zM_G hMξ (hYbξ _ (List.mem_of_getElem? (i := 2) rfl)) 6).trans (hVξ 2 6 (by decide))) ?_
    refine zp_kn (k := 6) (a := (A 2)) hwξ (show zp_fd 2 6 = some (2, 0, 0, (-2147483648), 2147483647) from rfl) rfl (zM_P hMξ (hYbξ _ (List.mem_of_getElem? (i := 2) rfl))) (fun hf242ξ => ?_)
    have hf242bξ := zp_int hf242ξ
    rw [((zM_G hMξ (hYbξ _ (List.mem_of_getElem? (i := 2) rfl)) 6).trans (hVξ 2 6 (by decide)))] at hf242bξ
    clear hf242ξ
    refine zp_iret (pc := 230) (n := (V 2 6)) hx hb hEξ hQξ hU5ξ rfl (by decide) (zd_X11_count (230, .ireturn, 1, 0, []) (List.mem_of_getElem? (i := 78) rfl)) (j := 0) rfl (zp_o0 (by omega) (by omega) (by omega) (by omega)) ?_
    rw [hpsξ]
    refine ⟨rfl, ?_⟩
    have hffξ : zf_cntc V p1ξ = ((V 2 6), V) := by
      unfold zf_cntc
      rw [if_neg hc210ξ, if_neg hc212ξ, if_neg hc214ξ, if_neg hc216ξ, if_neg hc218ξ, if_neg hc220ξ, if_neg hc222ξ, if_neg hc224ξ, if_neg hc226ξ, if_neg hc228ξ, if_neg hc230ξ, if_neg hc232ξ, if_neg hc234ξ, if_neg hc236ξ, if_neg hc239ξ, if_pos hc241ξ]
    show zMVc A Y F (zf_cntc V p1ξ).2 u.1 (zp_n u.2.1) ∧ (V 2 6) = (zf_cntc V p1ξ).1
    rw [hffξ]
    exact ⟨⟨M, hMξ, hVξ, trivial⟩, rfl⟩
  by_cases hc243ξ : p1ξ = 16
  · refine zp_tin (tgt := 231) (off := 230) (pc := 1) hx hb (zd_X11_count (1, .tableswitch 246 0 17 #[87, 95, 103, 111, 119, 127, 135, 142, 149, 156, 163, 170, 178, 189, 208, 219, 230, 238], 87, 0, []) (List.mem_of_getElem? (i := 1) rfl)) (by rw [hc243ξ]; decide) (by rw [hc243ξ]; decide) (by rw [hc243ξ]; decide) rfl ?_
    refine zp_load (pc := 231) hx hb (zd_X11_count (231, .aload_n 0, 1, 0, []) (List.mem_of_getElem? (i := 79) rfl)) rfl (j := 0) rfl ?_
    refine zp_getf (n := (A 1 : Int)) (pc := 232) hx hb hEξ hwξ (zd_X11_count (232, .getfield 10, 3, 0, []) (List.mem_of_getElem? (i := 80) rfl)) (j := 50) rfl rfl rfl (zM_P hMξ (hYbξ _ (List.mem_of_getElem? (i := 0) rfl))) ((zM_G hMξ (hYbξ _ (List.mem_of_getElem? (i := 0) rfl)) 0).trans (zM_F hMξ (hFbξ _ (List.mem_of_getElem? (i := 0) rfl)))) ?_
    refine zp_getf (n := (V 1 16)) (pc := 235) hx hb hEξ hwξ (zd_X11_count (235, .getfield 180, 3, 0, []) (List.mem_of_getElem? (i := 81) rfl)) (j := 22) rfl rfl rfl (zM_P hMξ (hYbξ _ (List.mem_of_getElem? (i := 1) rfl))) ((zM_G hMξ (hYbξ _ (List.mem_of_getElem? (i := 1) rfl)) 16).trans (hVξ 1 16 (by decide))) ?_
    refine zp_kn (k := 16) (a := (A 1)) hwξ (show zp_fd 10 16 = some (9, 0, 0, (-2147483648), 2147483647) from rfl) rfl (zM_P hMξ (hYbξ _ (List.mem_of_getElem? (i := 1) rfl))) (fun hf244ξ => ?_)
    have hf244bξ := zp_int hf244ξ
    rw [((zM_G hMξ (hYbξ _ (List.mem_of_getElem? (i := 1) rfl)) 16).trans (hVξ 1 16 (by decide)))] at hf244bξ
    clear hf244ξ
    refine zp_iret (pc := 238) (n := (V 1 16)) hx hb hEξ hQξ hU5ξ rfl (by decide) (zd_X11_count (238, .ireturn, 1, 0, []) (List.mem_of_getElem? (i := 82) rfl)) (j := 0) rfl (zp_o0 (by omega) (by omega) (by omega) (by omega)) ?_
    rw [hpsξ]
    refine ⟨rfl, ?_⟩
    have hffξ : zf_cntc V p1ξ = ((V 1 16), V) := by
      unfold zf_cntc
      rw [if_neg hc210ξ, if_neg hc212ξ, if_neg hc214ξ, if_neg hc216ξ, if_neg hc218ξ, if_neg hc220ξ, if_neg hc222ξ, if_neg hc224ξ, if_neg hc226ξ, if_neg hc228ξ, if_neg hc230ξ, if_neg hc232ξ, if_neg hc234ξ, if_neg hc236ξ, if_neg hc239ξ, if_neg hc241ξ, if_pos hc243ξ]
    show zMVc A Y F (zf_cntc V p1ξ).2 u.1 (zp_n u.2.1) ∧ (V 1 16) = (zf_cntc V p1ξ).1
    rw [hffξ]
    exact ⟨⟨M, hMξ, hVξ, trivial⟩, rfl⟩
  by_cases hc245ξ : p1ξ = 17
  · refine zp_tin (tgt := 239) (off := 238) (pc := 1) hx hb (zd_X11_count (1, .tableswitch 246 0 17 #[87, 95, 103, 111, 119, 127, 135, 142, 149, 156, 163, 170, 178, 189, 208, 219, 230, 238], 87, 0, []) (List.mem_of_getElem? (i := 1) rfl)) (by rw [hc245ξ]; decide) (by rw [hc245ξ]; decide) (by rw [hc245ξ]; decide) rfl ?_
    refine zp_load (pc := 239) hx hb (zd_X11_count (239, .aload_n 0, 1, 0, []) (List.mem_of_getElem? (i := 83) rfl)) rfl (j := 0) rfl ?_
    refine zp_getf (n := (A 1 : Int)) (pc := 240) hx hb hEξ hwξ (zd_X11_count (240, .getfield 10, 3, 0, []) (List.mem_of_getElem? (i := 84) rfl)) (j := 50) rfl rfl rfl (zM_P hMξ (hYbξ _ (List.mem_of_getElem? (i := 0) rfl))) ((zM_G hMξ (hYbξ _ (List.mem_of_getElem? (i := 0) rfl)) 0).trans (zM_F hMξ (hFbξ _ (List.mem_of_getElem? (i := 0) rfl)))) ?_
    refine zp_getf (n := (V 1 17)) (pc := 243) hx hb hEξ hwξ (zd_X11_count (243, .getfield 183, 3, 0, []) (List.mem_of_getElem? (i := 85) rfl)) (j := 23) rfl rfl rfl (zM_P hMξ (hYbξ _ (List.mem_of_getElem? (i := 1) rfl))) ((zM_G hMξ (hYbξ _ (List.mem_of_getElem? (i := 1) rfl)) 17).trans (hVξ 1 17 (by decide))) ?_
    refine zp_kn (k := 17) (a := (A 1)) hwξ (show zp_fd 10 17 = some (9, 0, 0, (-2147483648), 2147483647) from rfl) rfl (zM_P hMξ (hYbξ _ (List.mem_of_getElem? (i := 1) rfl))) (fun hf246ξ => ?_)
    have hf246bξ := zp_int hf246ξ
    rw [((zM_G hMξ (hYbξ _ (List.mem_of_getElem? (i := 1) rfl)) 17).trans (hVξ 1 17 (by decide)))] at hf246bξ
    clear hf246ξ
    refine zp_iret (pc := 246) (n := (V 1 17)) hx hb hEξ hQξ hU5ξ rfl (by decide) (zd_X11_count (246, .ireturn, 1, 0, []) (List.mem_of_getElem? (i := 86) rfl)) (j := 0) rfl (zp_o0 (by omega) (by omega) (by omega) (by omega)) ?_
    rw [hpsξ]
    refine ⟨rfl, ?_⟩
    have hffξ : zf_cntc V p1ξ = ((V 1 17), V) := by
      unfold zf_cntc
      rw [if_neg hc210ξ, if_neg hc212ξ, if_neg hc214ξ, if_neg hc216ξ, if_neg hc218ξ, if_neg hc220ξ, if_neg hc222ξ, if_neg hc224ξ, if_neg hc226ξ, if_neg hc228ξ, if_neg hc230ξ, if_neg hc232ξ, if_neg hc234ξ, if_neg hc236ξ, if_neg hc239ξ, if_neg hc241ξ, if_neg hc243ξ, if_pos hc245ξ]
    show zMVc A Y F (zf_cntc V p1ξ).2 u.1 (zp_n u.2.1) ∧ (V 1 17) = (zf_cntc V p1ξ).1
    rw [hffξ]
    exact ⟨⟨M, hMξ, hVξ, trivial⟩, rfl⟩
  refine zp_tout (tgt := 247) (pc := 1) hx hb (zd_X11_count (1, .tableswitch 246 0 17 #[87, 95, 103, 111, 119, 127, 135, 142, 149, 156, 163, 170, 178, 189, 208, 219, 230, 238], 87, 0, []) (List.mem_of_getElem? (i := 1) rfl)) (by omega) rfl ?_
  refine zp_const (pc := 247) hx hb (zd_X11_count (247, .iconst (-1), 1, 0, []) (List.mem_of_getElem? (i := 87) rfl)) rfl rfl ?_
  refine zp_iret (pc := 248) (n := (-1)) hx hb hEξ hQξ hU5ξ rfl (by decide) (zd_X11_count (248, .ireturn, 1, 0, []) (List.mem_of_getElem? (i := 88) rfl)) (j := 0) rfl (zp_o0 (by omega) (by omega) (by omega) (by omega)) ?_
  rw [hpsξ]
  refine ⟨rfl, ?_⟩
  have hffξ : zf_cntc V p1ξ = ((-1), V) := by
    unfold zf_cntc
    rw [if_neg hc210ξ, if_neg hc212ξ, if_neg hc214ξ, if_neg hc216ξ, if_neg hc218ξ, if_neg hc220ξ, if_neg hc222ξ, if_neg hc224ξ, if_neg hc226ξ, if_neg hc228ξ, if_neg hc230ξ, if_neg hc232ξ, if_neg hc234ξ, if_neg hc236ξ, if_neg hc239ξ, if_neg hc241ξ, if_neg hc243ξ, if_neg hc245ξ]
  show zMVc A Y F (zf_cntc V p1ξ).2 u.1 (zp_n u.2.1) ∧ (-1) = (zf_cntc V p1ξ).1
  rw [hffξ]
  exact ⟨⟨M, hMξ, hVξ, trivial⟩, rfl⟩
noncomputable def zf_frcc (V : Nat → Nat → Int) (p1ξ : Int) : Int × (Nat → Nat → Int) := if p1ξ = (-1) then (((zf_ans (zp_set V 1 15 p1ξ) (V 1 15)).1), (zf_ans (zp_set V 1 15 p1ξ) (V 1 15)).2) else if 0 ≤ p1ξ ∧ p1ξ ≤ ((V 1 14) - 1) then (((zf_ans (zp_set V 1 15 p1ξ) (V 1 15)).1), (zf_ans (zp_set V 1 15 p1ξ) (V 1 15)).2) else (((zf_rfs V (-2)).1), (zf_rfs V (-2)).2)
noncomputable def zK_frcc : zk_K := (zt_mn 117, prog_1_method_20_code, 3, (Option.some Jvm.ClassFile.FieldType.int), 1, 11, [(2, 12, 0, 0), (0, 0, (-2147483648), 2147483647)], [(some (0, 0, (-2147483648), 2147483647), [])], zUC, (2, 180, 0, 0))
noncomputable def zφ_frcc (A : Nat → Nat) (Y : List (Nat × Nat)) (F : List (Nat × Nat × Nat)) (V : Nat → Nat → Int) : (Nat → Option Nat) → (Nat → Nat → Int) → List Int → Prop := fun P G ps => zMVc A Y F V P G ∧ ps.getD 0 0 = (A 0 : Int) ∧ zMc Y F
noncomputable def zψ_frcc (A : Nat → Nat) (Y : List (Nat × Nat)) (F : List (Nat × Nat × Nat)) (V : Nat → Nat → Int) : (Nat → Option Nat) → (Nat → Nat → Int) → List Int → (Nat → Option Nat) → (Nat → Nat → Int) → Int → Prop := fun P G ps P' G' rn => P' = P ∧ zMVc A Y F (zf_frcc V (ps.getD 1 0)).2 P' G' ∧ rn = (zf_frcc V (ps.getD 1 0)).1
theorem zX_frcc {l : Launch} {w : zk_W} (hWξ : zh_W w) (A : Nat → Nat) (Y : List (Nat × Nat)) (F : List (Nat × Nat × Nat)) (V : Nat → Nat → Int) : zk_metX l w zt_dv zt_TB zK_frcc (zp_A (zφ_frcc A Y F V)) (zp_B (zψ_frcc A Y F V)) ∧ zk_cok w zt_TB zK_frcc := by
  refine zp_methX (cn := "WoundTown") zp_lkallW hWξ (pl := 1050) rfl (by decide +kernel) (fun p e R s m args below meth c Q u hx hb hEξ hQξ hU5ξ heffξ hnLξ hokξ hφ => ?_)
  have hwξ := hWξ.1
  obtain ⟨p0ξ, p1ξ, hpsξ, tk0, tk1⟩ := zp_ps2 hokξ
  have hrmξ : zk_Kr (zk_ev (zt_types, zp_lkW, zt_dv, [], [], zp_lcW, zK_frcc)) = zk_Kr zK_frcc := rfl
  rw [hpsξ] at hφ ⊢
  have hφ : zMVc A Y F V u.1 (zp_n u.2.1) ∧ p0ξ = (A 0 : Int) ∧ zMc Y F := hφ
  obtain ⟨⟨M, hMξ, hVξ, hSbξ⟩, rfl, hYFξ⟩ := hφ
  have hYF0ξ := hYFξ
  obtain ⟨hYbξ, hFbξ, hFxξ, -⟩ := hYFξ
  have hi1ξ := zp_int tk1
  show zp_J p l e R s m args below meth c Q w u [] 0 [(0, 2, (A 0 : Int)), (1, 0, p1ξ)] [] u.1 (zp_n u.2.1)
  refine zp_load (pc := 0) hx hb (zd_X11_force (0, .iload_n 1, 1, 0, []) (List.mem_of_getElem? (i := 0) rfl)) rfl (j := 1) rfl ?_
  refine zp_const (pc := 1) hx hb (zd_X11_force (1, .iconst (-1), 1, 0, []) (List.mem_of_getElem? (i := 1) rfl)) rfl rfl ?_
  refine zp_icmp (pc := 2) (tgt := 29) hx hb (zd_X11_force (2, .if_icmp .eq 27, 3, 0, []) (List.mem_of_getElem? (i := 2) rfl)) rfl (fun (hc247ξ : p1ξ = (-1)) => ?_) (fun (hc247ξ : ¬ (p1ξ = (-1))) => ?_)
  · refine zp_load (pc := 29) hx hb (zd_X11_force (29, .aload_n 0, 1, 0, []) (List.mem_of_getElem? (i := 16) rfl)) rfl (j := 0) rfl ?_
    refine zp_getf (n := (A 1 : Int)) (pc := 30) hx hb hEξ hwξ (zd_X11_force (30, .getfield 10, 3, 0, []) (List.mem_of_getElem? (i := 17) rfl)) (j := 50) rfl rfl rfl (zM_P hMξ (hYbξ _ (List.mem_of_getElem? (i := 0) rfl))) ((zM_G hMξ (hYbξ _ (List.mem_of_getElem? (i := 0) rfl)) 0).trans (zM_F hMξ (hFbξ _ (List.mem_of_getElem? (i := 0) rfl)))) ?_
    refine zp_getf (n := (V 1 15)) (pc := 33) hx hb hEξ hwξ (zd_X11_force (33, .getfield 289, 3, 0, []) (List.mem_of_getElem? (i := 18) rfl)) (j := 21) rfl rfl rfl (zM_P hMξ (hYbξ _ (List.mem_of_getElem? (i := 1) rfl))) ((zM_G hMξ (hYbξ _ (List.mem_of_getElem? (i := 1) rfl)) 15).trans (hVξ 1 15 (by decide))) ?_
    refine zp_kn (k := 15) (a := (A 1)) hwξ (show zp_fd 10 15 = some (9, 0, 0, (-2147483648), 2147483647) from rfl) rfl (zM_P hMξ (hYbξ _ (List.mem_of_getElem? (i := 1) rfl))) (fun hf248ξ => ?_)
    have hf248bξ := zp_int hf248ξ
    rw [((zM_G hMξ (hYbξ _ (List.mem_of_getElem? (i := 1) rfl)) 15).trans (hVξ 1 15 (by decide)))] at hf248bξ
    clear hf248ξ
    refine zp_store (L' := [(2, 0, (V 1 15)), (0, 2, (A 0 : Int)), (1, 0, p1ξ)]) (pc := 36) hx hb hnLξ (zd_X11_force (36, .istore_n 2, 1, 0, []) (List.mem_of_getElem? (i := 19) rfl)) rfl rfl rfl ?_
    refine zp_load (pc := 37) hx hb (zd_X11_force (37, .aload_n 0, 1, 0, []) (List.mem_of_getElem? (i := 20) rfl)) rfl (j := 1) rfl ?_
    refine zp_getf (n := (A 1 : Int)) (pc := 38) hx hb hEξ hwξ (zd_X11_force (38, .getfield 10, 3, 0, []) (List.mem_of_getElem? (i := 21) rfl)) (j := 50) rfl rfl rfl (zM_P hMξ (hYbξ _ (List.mem_of_getElem? (i := 0) rfl))) ((zM_G hMξ (hYbξ _ (List.mem_of_getElem? (i := 0) rfl)) 0).trans (zM_F hMξ (hFbξ _ (List.mem_of_getElem? (i := 0) rfl)))) ?_
    refine zp_load (pc := 41) hx hb (zd_X11_force (41, .iload_n 1, 1, 0, []) (List.mem_of_getElem? (i := 22) rfl)) rfl (j := 2) rfl ?_
    refine zp_putf (pc := 42) hx hb hEξ hwξ heffξ (zd_X11_force (42, .putfield 289, 3, 0, []) (List.mem_of_getElem? (i := 23) rfl)) (j := 21) rfl rfl rfl (zM_P hMξ (hYbξ _ (List.mem_of_getElem? (i := 1) rfl))) (zp_o0 (by omega) (by omega) (by omega) (by omega)) ?_
    refine zp_load (pc := 45) hx hb (zd_X11_force (45, .aload_n 0, 1, 0, []) (List.mem_of_getElem? (i := 24) rfl)) rfl (j := 1) rfl ?_
    refine zp_load (pc := 46) hx hb (zd_X11_force (46, .iload_n 2, 1, 0, []) (List.mem_of_getElem? (i := 25) rfl)) rfl (j := 0) rfl ?_
    refine zp_call (pc := 47) (how := 0) (idx := 118) (mi := 17) (S := []) hx hb hEξ hwξ heffξ hrmξ (zX_ans hWξ A Y F (zp_set V 1 15 p1ξ)) rfl (j := 12) rfl rfl (by decide +kernel) (zd_X11_force (47, .invokevirtual 118, 3, 0, []) (List.mem_of_getElem? (i := 26) rfl)) [(A 0 : Int), (V 1 15)] rfl ⟨zp_o2 (zM_P hMξ (hYbξ _ (List.mem_of_getElem? (i := 0) rfl))), zp_o0 (by omega) (by omega) (by omega) (by omega), trivial⟩ (Nat.le_of_ble_eq_true rfl) ⟨⟨(zp_set M 1 15 p1ξ), (zM_set hMξ (hYbξ _ (List.mem_of_getElem? (i := 1) rfl)) (zFx hFxξ (o := 1) (k := 15) (by decide) (by decide))), (zV_set hVξ), trivial⟩, rfl, hYF0ξ⟩ (fun al halξ rna249ξ Pa249 Ga249 hexta249ξ hfra249ξ hoka249ξ hcsa249ξ hpsia249ξ => ?_)
    obtain rfl := List.mem_singleton.mp halξ
    have hra249ξ := zp_int (hoka249ξ _ rfl).1
    obtain ⟨hPea249ξ, ⟨Ma249, hMa249ξ, hVa249ξ, hSba249ξ⟩, hta249ξ⟩ := hpsia249ξ
    subst hPea249ξ
    clear hexta249ξ hfra249ξ hcsa249ξ hoka249ξ
    have hVa249ξ : ∀ o k, zNc o → Ma249 o k = (zf_ans (zp_set V 1 15 p1ξ) (V 1 15)).2 o k := hVa249ξ
    have hta249ξ : rna249ξ = ((zf_ans (zp_set V 1 15 p1ξ) (V 1 15)).1) := hta249ξ
    have hta249ξ := (Eq.symm hta249ξ)
    subst hta249ξ
    refine zp_iret (pc := 50) (n := ((zf_ans (zp_set V 1 15 p1ξ) (V 1 15)).1)) hx hb hEξ hQξ hU5ξ rfl (by decide) (zd_X11_force (50, .ireturn, 1, 0, []) (List.mem_of_getElem? (i := 27) rfl)) (j := 0) rfl (zp_o0 (by omega) (by omega) (by omega) (by omega)) ?_
    rw [hpsξ]
    refine ⟨rfl, ?_⟩
    have hffξ : zf_frcc V p1ξ = (((zf_ans (zp_set V 1 15 p1ξ) (V 1 15)).1), (zf_ans (zp_set V 1 15 p1ξ) (V 1 15)).2) := by
      unfold zf_frcc
      rw [if_pos hc247ξ]
    show zMVc A Y F (zf_frcc V p1ξ).2 u.1 Ga249 ∧ ((zf_ans (zp_set V 1 15 p1ξ) (V 1 15)).1) = (zf_frcc V p1ξ).1
    rw [hffξ]
    exact ⟨⟨Ma249, hMa249ξ, hVa249ξ, trivial⟩, rfl⟩
  · refine zp_load (pc := 5) hx hb (zd_X11_force (5, .iload_n 1, 1, 0, []) (List.mem_of_getElem? (i := 3) rfl)) rfl (j := 1) rfl ?_
    refine zp_const (pc := 6) hx hb (zd_X11_force (6, .iconst 0, 1, 0, []) (List.mem_of_getElem? (i := 4) rfl)) rfl rfl ?_
    refine zp_load (pc := 7) hx hb (zd_X11_force (7, .aload_n 0, 1, 0, []) (List.mem_of_getElem? (i := 5) rfl)) rfl (j := 0) rfl ?_
    refine zp_getf (n := (A 1 : Int)) (pc := 8) hx hb hEξ hwξ (zd_X11_force (8, .getfield 10, 3, 0, []) (List.mem_of_getElem? (i := 6) rfl)) (j := 50) rfl rfl rfl (zM_P hMξ (hYbξ _ (List.mem_of_getElem? (i := 0) rfl))) ((zM_G hMξ (hYbξ _ (List.mem_of_getElem? (i := 0) rfl)) 0).trans (zM_F hMξ (hFbξ _ (List.mem_of_getElem? (i := 0) rfl)))) ?_
    refine zp_getf (n := (V 1 14)) (pc := 11) hx hb hEξ hwξ (zd_X11_force (11, .getfield 205, 3, 0, []) (List.mem_of_getElem? (i := 7) rfl)) (j := 20) rfl rfl rfl (zM_P hMξ (hYbξ _ (List.mem_of_getElem? (i := 1) rfl))) ((zM_G hMξ (hYbξ _ (List.mem_of_getElem? (i := 1) rfl)) 14).trans (hVξ 1 14 (by decide))) ?_
    refine zp_kn (k := 14) (a := (A 1)) hwξ (show zp_fd 10 14 = some (9, 0, 0, 0, 6) from rfl) rfl (zM_P hMξ (hYbξ _ (List.mem_of_getElem? (i := 1) rfl))) (fun hf250ξ => ?_)
    have hf250bξ := zp_int hf250ξ
    rw [((zM_G hMξ (hYbξ _ (List.mem_of_getElem? (i := 1) rfl)) 14).trans (hVξ 1 14 (by decide)))] at hf250bξ
    clear hf250ξ
    refine zp_const (pc := 14) hx hb (zd_X11_force (14, .iconst 1, 1, 0, []) (List.mem_of_getElem? (i := 8) rfl)) rfl rfl ?_
    refine zp_sub (n := ((V 1 14) - 1)) (pc := 15) hx hb (zd_X11_force (15, .isub, 1, 0, []) (List.mem_of_getElem? (i := 9) rfl)) (by omega) (zp_r0 (by omega) (by omega)) ?_
    refine zp_call (pc := 16) (how := 1) (idx := 107) (mi := 15) (S := []) hx hb hEξ hwξ heffξ hrmξ (zX_iwn hWξ) rfl (j := 10) rfl rfl (by decide +kernel) (zd_X11_force (16, .invokestatic 107, 3, 0, []) (List.mem_of_getElem? (i := 10) rfl)) [p1ξ, 0, ((V 1 14) - 1)] rfl ⟨zp_o0 (by omega) (by omega) (by omega) (by omega), zp_o0 (by omega) (by omega) (by omega) (by omega), zp_o0 (by omega) (by omega) (by omega) (by omega), trivial⟩ (Nat.le_of_ble_eq_true rfl) trivial (fun al halξ rnn251ξ Pn251 Gn251 hextn251ξ hfrn251ξ hokn251ξ hcsn251ξ hpsin251ξ => ?_)
    obtain rfl := List.mem_singleton.mp halξ
    have hrn251ξ := zp_int (hokn251ξ _ rfl).1
    obtain ⟨hPen251ξ, hGen251ξ, htn251ξ⟩ := hpsin251ξ
    rw [hPen251ξ, hGen251ξ]
    clear hextn251ξ hfrn251ξ hcsn251ξ hPen251ξ hGen251ξ
    have htn251ξ : rnn251ξ = 1 ↔ 0 ≤ p1ξ ∧ p1ξ ≤ ((V 1 14) - 1) := htn251ξ
    refine zp_if (pc := 19) (tgt := 29) hx hb (zd_X11_force (19, .ifCond .ne 10, 3, 0, []) (List.mem_of_getElem? (i := 11) rfl)) rfl (fun (hc252ξ : ¬ rnn251ξ = 0) => ?_) (fun (hc252ξ : ¬ (¬ rnn251ξ = 0)) => ?_)
    · have hbt253ξ := (Iff.mp htn251ξ) (by omega)
      refine zp_load (pc := 29) hx hb (zd_X11_force (29, .aload_n 0, 1, 0, []) (List.mem_of_getElem? (i := 16) rfl)) rfl (j := 0) rfl ?_
      refine zp_getf (n := (A 1 : Int)) (pc := 30) hx hb hEξ hwξ (zd_X11_force (30, .getfield 10, 3, 0, []) (List.mem_of_getElem? (i := 17) rfl)) (j := 50) rfl rfl rfl (zM_P hMξ (hYbξ _ (List.mem_of_getElem? (i := 0) rfl))) ((zM_G hMξ (hYbξ _ (List.mem_of_getElem? (i := 0) rfl)) 0).trans (zM_F hMξ (hFbξ _ (List.mem_of_getElem? (i := 0) rfl)))) ?_
      refine zp_getf (n := (V 1 15)) (pc := 33) hx hb hEξ hwξ (zd_X11_force (33, .getfield 289, 3, 0, []) (List.mem_of_getElem? (i := 18) rfl)) (j := 21) rfl rfl rfl (zM_P hMξ (hYbξ _ (List.mem_of_getElem? (i := 1) rfl))) ((zM_G hMξ (hYbξ _ (List.mem_of_getElem? (i := 1) rfl)) 15).trans (hVξ 1 15 (by decide))) ?_
      refine zp_kn (k := 15) (a := (A 1)) hwξ (show zp_fd 10 15 = some (9, 0, 0, (-2147483648), 2147483647) from rfl) rfl (zM_P hMξ (hYbξ _ (List.mem_of_getElem? (i := 1) rfl))) (fun hf255ξ => ?_)
      have hf255bξ := zp_int hf255ξ
      rw [((zM_G hMξ (hYbξ _ (List.mem_of_getElem? (i := 1) rfl)) 15).trans (hVξ 1 15 (by decide)))] at hf255bξ
      clear hf255ξ
      refine zp_store (L' := [(2, 0, (V 1 15)), (0, 2, (A 0 : Int)), (1, 0, p1ξ)]) (pc := 36) hx hb hnLξ (zd_X11_force (36, .istore_n 2, 1, 0, []) (List.mem_of_getElem? (i := 19) rfl)) rfl rfl rfl ?_
      refine zp_load (pc := 37) hx hb (zd_X11_force (37, .aload_n 0, 1, 0, []) (List.mem_of_getElem? (i := 20) rfl)) rfl (j := 1) rfl ?_
      refine zp_getf (n := (A 1 : Int)) (pc := 38) hx hb hEξ hwξ (zd_X11_force (38, .getfield 10, 3, 0, []) (List.mem_of_getElem? (i := 21) rfl)) (j := 50) rfl rfl rfl (zM_P hMξ (hYbξ _ (List.mem_of_getElem? (i := 0) rfl))) ((zM_G hMξ (hYbξ _ (List.mem_of_getElem? (i := 0) rfl)) 0).trans (zM_F hMξ (hFbξ _ (List.mem_of_getElem? (i := 0) rfl)))) ?_
      refine zp_load (pc := 41) hx hb (zd_X11_force (41, .iload_n 1, 1, 0, []) (List.mem_of_getElem? (i := 22) rfl)) rfl (j := 2) rfl ?_
      refine zp_putf (pc := 42) hx hb hEξ hwξ heffξ (zd_X11_force (42, .putfield 289, 3, 0, []) (List.mem_of_getElem? (i := 23) rfl)) (j := 21) rfl rfl rfl (zM_P hMξ (hYbξ _ (List.mem_of_getElem? (i := 1) rfl))) (zp_o0 (by omega) (by omega) (by omega) (by omega)) ?_
      refine zp_load (pc := 45) hx hb (zd_X11_force (45, .aload_n 0, 1, 0, []) (List.mem_of_getElem? (i := 24) rfl)) rfl (j := 1) rfl ?_
      refine zp_load (pc := 46) hx hb (zd_X11_force (46, .iload_n 2, 1, 0, []) (List.mem_of_getElem? (i := 25) rfl)) rfl (j := 0) rfl ?_
      refine zp_call (pc := 47) (how := 0) (idx := 118) (mi := 17) (S := []) hx hb hEξ hwξ heffξ hrmξ (zX_ans hWξ A Y F (zp_set V 1 15 p1ξ)) rfl (j := 12) rfl rfl (by decide +kernel) (zd_X11_force (47, .invokevirtual 118, 3, 0, []) (List.mem_of_getElem? (i := 26) rfl)) [(A 0 : Int), (V 1 15)] rfl ⟨zp_o2 (zM_P hMξ (hYbξ _ (List.mem_of_getElem? (i := 0) rfl))), zp_o0 (by omega) (by omega) (by omega) (by omega), trivial⟩ (Nat.le_of_ble_eq_true rfl) ⟨⟨(zp_set M 1 15 p1ξ), (zM_set hMξ (hYbξ _ (List.mem_of_getElem? (i := 1) rfl)) (zFx hFxξ (o := 1) (k := 15) (by decide) (by decide))), (zV_set hVξ), trivial⟩, rfl, hYF0ξ⟩ (fun al halξ rna256ξ Pa256 Ga256 hexta256ξ hfra256ξ hoka256ξ hcsa256ξ hpsia256ξ => ?_)
      obtain rfl := List.mem_singleton.mp halξ
      have hra256ξ := zp_int (hoka256ξ _ rfl).1
      obtain ⟨hPea256ξ, ⟨Ma256, hMa256ξ, hVa256ξ, hSba256ξ⟩, hta256ξ⟩ := hpsia256ξ
      subst hPea256ξ
      clear hexta256ξ hfra256ξ hcsa256ξ hoka256ξ
      have hVa256ξ : ∀ o k, zNc o → Ma256 o k = (zf_ans (zp_set V 1 15 p1ξ) (V 1 15)).2 o k := hVa256ξ
      have hta256ξ : rna256ξ = ((zf_ans (zp_set V 1 15 p1ξ) (V 1 15)).1) := hta256ξ
      have hta256ξ := (Eq.symm hta256ξ)
      subst hta256ξ
      refine zp_iret (pc := 50) (n := ((zf_ans (zp_set V 1 15 p1ξ) (V 1 15)).1)) hx hb hEξ hQξ hU5ξ rfl (by decide) (zd_X11_force (50, .ireturn, 1, 0, []) (List.mem_of_getElem? (i := 27) rfl)) (j := 0) rfl (zp_o0 (by omega) (by omega) (by omega) (by omega)) ?_
      rw [hpsξ]
      refine ⟨rfl, ?_⟩
      have hffξ : zf_frcc V p1ξ = (((zf_ans (zp_set V 1 15 p1ξ) (V 1 15)).1), (zf_ans (zp_set V 1 15 p1ξ) (V 1 15)).2) := by
        unfold zf_frcc
        rw [if_neg hc247ξ, if_pos ((Iff.mp htn251ξ) (by omega))]
      show zMVc A Y F (zf_frcc V p1ξ).2 u.1 Ga256 ∧ ((zf_ans (zp_set V 1 15 p1ξ) (V 1 15)).1) = (zf_frcc V p1ξ).1
      rw [hffξ]
      exact ⟨⟨Ma256, hMa256ξ, hVa256ξ, trivial⟩, rfl⟩
    · have hbf254ξ : ¬ (0 ≤ p1ξ ∧ p1ξ ≤ ((V 1 14) - 1)) := fun h9ξ => absurd ((Iff.mpr htn251ξ) h9ξ) (by omega)
      refine zp_load (pc := 22) hx hb (zd_X11_force (22, .aload_n 0, 1, 0, []) (List.mem_of_getElem? (i := 12) rfl)) rfl (j := 0) rfl ?_
      refine zp_const (pc := 23) hx hb (zd_X11_force (23, .bipush (-2), 2, 0, []) (List.mem_of_getElem? (i := 13) rfl)) rfl rfl ?_
      refine zp_call (pc := 25) (how := 0) (idx := 111) (mi := 16) (S := []) hx hb hEξ hwξ heffξ hrmξ (zX_rfs hWξ A Y F V) rfl (j := 11) rfl rfl (by decide +kernel) (zd_X11_force (25, .invokevirtual 111, 3, 0, []) (List.mem_of_getElem? (i := 14) rfl)) [(A 0 : Int), (-2)] rfl ⟨zp_o2 (zM_P hMξ (hYbξ _ (List.mem_of_getElem? (i := 0) rfl))), zp_o0 (by omega) (by omega) (by omega) (by omega), trivial⟩ (Nat.le_of_ble_eq_true rfl) ⟨⟨M, hMξ, hVξ, trivial⟩, rfl, hYF0ξ⟩ (fun al halξ rna257ξ Pa257 Ga257 hexta257ξ hfra257ξ hoka257ξ hcsa257ξ hpsia257ξ => ?_)
      obtain rfl := List.mem_singleton.mp halξ
      have hra257ξ := zp_int (hoka257ξ _ rfl).1
      obtain ⟨hPea257ξ, ⟨Ma257, hMa257ξ, hVa257ξ, hSba257ξ⟩, hta257ξ⟩ := hpsia257ξ
      subst hPea257ξ
      clear hexta257ξ hfra257ξ hcsa257ξ hoka257ξ
      have hVa257ξ : ∀ o k, zNc o → Ma257 o k = (zf_rfs V (-2)).2 o k := hVa257ξ
      have hta257ξ : rna257ξ = ((zf_rfs V (-2)).1) := hta257ξ
      have hta257ξ := (Eq.symm hta257ξ)
      subst hta257ξ
      refine zp_iret (pc := 28) (n := ((zf_rfs V (-2)).1)) hx hb hEξ hQξ hU5ξ rfl (by decide) (zd_X11_force (28, .ireturn, 1, 0, []) (List.mem_of_getElem? (i := 15) rfl)) (j := 0) rfl (zp_o0 (by omega) (by omega) (by omega) (by omega)) ?_
      rw [hpsξ]
      refine ⟨rfl, ?_⟩
      have hffξ : zf_frcc V p1ξ = (((zf_rfs V (-2)).1), (zf_rfs V (-2)).2) := by
        unfold zf_frcc
        rw [if_neg hc247ξ, if_neg (fun h9ξ => absurd ((Iff.mpr htn251ξ) h9ξ) (by omega))]
      show zMVc A Y F (zf_frcc V p1ξ).2 u.1 Ga257 ∧ ((zf_rfs V (-2)).1) = (zf_frcc V p1ξ).1
      rw [hffξ]
      exact ⟨⟨Ma257, hMa257ξ, hVa257ξ, trivial⟩, rfl⟩
noncomputable def zf_stac (V : Nat → Nat → Int) : Int × (Nat → Nat → Int) := ((V 0 18), V)
noncomputable def zK_stac : zk_K := (zt_mn 180, prog_1_method_50_code, 1, (Option.some Jvm.ClassFile.FieldType.int), 1, 11, [(2, 12, 0, 0)], [(some (0, 0, (-2147483648), 2147483647), [])], zUC, (2, 180, 0, 0))
noncomputable def zφ_stac (A : Nat → Nat) (Y : List (Nat × Nat)) (F : List (Nat × Nat × Nat)) (V : Nat → Nat → Int) : (Nat → Option Nat) → (Nat → Nat → Int) → List Int → Prop := fun P G ps => zMVc A Y F V P G ∧ ps.getD 0 0 = (A 0 : Int) ∧ zMc Y F
noncomputable def zψ_stac (A : Nat → Nat) (Y : List (Nat × Nat)) (F : List (Nat × Nat × Nat)) (V : Nat → Nat → Int) : (Nat → Option Nat) → (Nat → Nat → Int) → List Int → (Nat → Option Nat) → (Nat → Nat → Int) → Int → Prop := fun P G ps P' G' rn => P' = P ∧ zMVc A Y F (zf_stac V).2 P' G' ∧ rn = (zf_stac V).1
theorem zX_stac {l : Launch} {w : zk_W} (hWξ : zh_W w) (A : Nat → Nat) (Y : List (Nat × Nat)) (F : List (Nat × Nat × Nat)) (V : Nat → Nat → Int) : zk_metX l w zt_dv zt_TB zK_stac (zp_A (zφ_stac A Y F V)) (zp_B (zψ_stac A Y F V)) ∧ zk_cok w zt_TB zK_stac := by
  refine zp_methX (cn := "WoundTown") zp_lkallW hWξ (pl := 1336) rfl (by decide +kernel) (fun p e R s m args below meth c Q u hx hb hEξ hQξ hU5ξ heffξ hnLξ hokξ hφ => ?_)
  have hwξ := hWξ.1
  obtain ⟨p0ξ, hpsξ, tk0⟩ := zp_ps1 hokξ
  have hrmξ : zk_Kr (zk_ev (zt_types, zp_lkW, zt_dv, [], [], zp_lcW, zK_stac)) = zk_Kr zK_stac := rfl
  rw [hpsξ] at hφ ⊢
  have hφ : zMVc A Y F V u.1 (zp_n u.2.1) ∧ p0ξ = (A 0 : Int) ∧ zMc Y F := hφ
  obtain ⟨⟨M, hMξ, hVξ, hSbξ⟩, rfl, hYFξ⟩ := hφ
  have hYF0ξ := hYFξ
  obtain ⟨hYbξ, hFbξ, hFxξ, -⟩ := hYFξ
  show zp_J p l e R s m args below meth c Q w u [] 0 [(0, 2, (A 0 : Int))] [] u.1 (zp_n u.2.1)
  refine zp_load (pc := 0) hx hb (zd_X11_status (0, .aload_n 0, 1, 0, []) (List.mem_of_getElem? (i := 0) rfl)) rfl (j := 0) rfl ?_
  refine zp_getf (n := (V 0 18)) (pc := 1) hx hb hEξ hwξ (zd_X11_status (1, .getfield 438, 3, 0, []) (List.mem_of_getElem? (i := 1) rfl)) (j := 68) rfl rfl rfl (zM_P hMξ (hYbξ _ (List.mem_of_getElem? (i := 0) rfl))) ((zM_G hMξ (hYbξ _ (List.mem_of_getElem? (i := 0) rfl)) 18).trans (hVξ 0 18 (by decide))) ?_
  refine zp_kn (k := 18) (a := (A 0)) hwξ (show zp_fd 12 18 = some (11, 0, 0, (-2147483648), 2147483647) from rfl) rfl (zM_P hMξ (hYbξ _ (List.mem_of_getElem? (i := 0) rfl))) (fun hf258ξ => ?_)
  have hf258bξ := zp_int hf258ξ
  rw [((zM_G hMξ (hYbξ _ (List.mem_of_getElem? (i := 0) rfl)) 18).trans (hVξ 0 18 (by decide)))] at hf258bξ
  clear hf258ξ
  refine zp_iret (pc := 4) (n := (V 0 18)) hx hb hEξ hQξ hU5ξ rfl (by decide) (zd_X11_status (4, .ireturn, 1, 0, []) (List.mem_of_getElem? (i := 2) rfl)) (j := 0) rfl (zp_o0 (by omega) (by omega) (by omega) (by omega)) ?_
  rw [hpsξ]
  refine ⟨rfl, ?_⟩
  have hffξ : zf_stac V = ((V 0 18), V) := rfl
  show zMVc A Y F (zf_stac V).2 u.1 (zp_n u.2.1) ∧ (V 0 18) = (zf_stac V).1
  rw [hffξ]
  exact ⟨⟨M, hMξ, hVξ, trivial⟩, rfl⟩
noncomputable def zf_stpc (V : Nat → Nat → Int) : Int × (Nat → Nat → Int) := ((V 0 15), V)
noncomputable def zK_stpc : zk_K := (zt_mn 116, prog_1_method_19_code, 1, (Option.some Jvm.ClassFile.FieldType.int), 1, 11, [(2, 12, 0, 0)], [(some (0, 0, (-2147483648), 2147483647), [])], zUC, (2, 180, 0, 0))
noncomputable def zφ_stpc (A : Nat → Nat) (Y : List (Nat × Nat)) (F : List (Nat × Nat × Nat)) (V : Nat → Nat → Int) : (Nat → Option Nat) → (Nat → Nat → Int) → List Int → Prop := fun P G ps => zMVc A Y F V P G ∧ ps.getD 0 0 = (A 0 : Int) ∧ zMc Y F
noncomputable def zψ_stpc (A : Nat → Nat) (Y : List (Nat × Nat)) (F : List (Nat × Nat × Nat)) (V : Nat → Nat → Int) : (Nat → Option Nat) → (Nat → Nat → Int) → List Int → (Nat → Option Nat) → (Nat → Nat → Int) → Int → Prop := fun P G ps P' G' rn => P' = P ∧ zMVc A Y F (zf_stpc V).2 P' G' ∧ rn = (zf_stpc V).1
theorem zX_stpc {l : Launch} {w : zk_W} (hWξ : zh_W w) (A : Nat → Nat) (Y : List (Nat × Nat)) (F : List (Nat × Nat × Nat)) (V : Nat → Nat → Int) : zk_metX l w zt_dv zt_TB zK_stpc (zp_A (zφ_stpc A Y F V)) (zp_B (zψ_stpc A Y F V)) ∧ zk_cok w zt_TB zK_stpc := by
  refine zp_methX (cn := "WoundTown") zp_lkallW hWξ (pl := 1046) rfl (by decide +kernel) (fun p e R s m args below meth c Q u hx hb hEξ hQξ hU5ξ heffξ hnLξ hokξ hφ => ?_)
  have hwξ := hWξ.1
  obtain ⟨p0ξ, hpsξ, tk0⟩ := zp_ps1 hokξ
  have hrmξ : zk_Kr (zk_ev (zt_types, zp_lkW, zt_dv, [], [], zp_lcW, zK_stpc)) = zk_Kr zK_stpc := rfl
  rw [hpsξ] at hφ ⊢
  have hφ : zMVc A Y F V u.1 (zp_n u.2.1) ∧ p0ξ = (A 0 : Int) ∧ zMc Y F := hφ
  obtain ⟨⟨M, hMξ, hVξ, hSbξ⟩, rfl, hYFξ⟩ := hφ
  have hYF0ξ := hYFξ
  obtain ⟨hYbξ, hFbξ, hFxξ, -⟩ := hYFξ
  show zp_J p l e R s m args below meth c Q w u [] 0 [(0, 2, (A 0 : Int))] [] u.1 (zp_n u.2.1)
  refine zp_load (pc := 0) hx hb (zd_X11_stopped (0, .aload_n 0, 1, 0, []) (List.mem_of_getElem? (i := 0) rfl)) rfl (j := 0) rfl ?_
  refine zp_getf (n := (V 0 15)) (pc := 1) hx hb hEξ hwξ (zd_X11_stopped (1, .getfield 98, 3, 0, []) (List.mem_of_getElem? (i := 1) rfl)) (j := 65) rfl rfl rfl (zM_P hMξ (hYbξ _ (List.mem_of_getElem? (i := 0) rfl))) ((zM_G hMξ (hYbξ _ (List.mem_of_getElem? (i := 0) rfl)) 15).trans (hVξ 0 15 (by decide))) ?_
  refine zp_kn (k := 15) (a := (A 0)) hwξ (show zp_fd 12 15 = some (11, 0, 0, (-2147483648), 2147483647) from rfl) rfl (zM_P hMξ (hYbξ _ (List.mem_of_getElem? (i := 0) rfl))) (fun hf259ξ => ?_)
  have hf259bξ := zp_int hf259ξ
  rw [((zM_G hMξ (hYbξ _ (List.mem_of_getElem? (i := 0) rfl)) 15).trans (hVξ 0 15 (by decide)))] at hf259bξ
  clear hf259ξ
  refine zp_iret (pc := 4) (n := (V 0 15)) hx hb hEξ hQξ hU5ξ rfl (by decide) (zd_X11_stopped (4, .ireturn, 1, 0, []) (List.mem_of_getElem? (i := 2) rfl)) (j := 0) rfl (zp_o0 (by omega) (by omega) (by omega) (by omega)) ?_
  rw [hpsξ]
  refine ⟨rfl, ?_⟩
  have hffξ : zf_stpc V = ((V 0 15), V) := rfl
  show zMVc A Y F (zf_stpc V).2 u.1 (zp_n u.2.1) ∧ (V 0 15) = (zf_stpc V).1
  rw [hffξ]
  exact ⟨⟨M, hMξ, hVξ, trivial⟩, rfl⟩
noncomputable def zf_fauc (V : Nat → Nat → Int) : Int × (Nat → Nat → Int) := ((V 12 2), V)
noncomputable def zK_fauc : zk_K := (zt_mn 115, prog_1_method_18_code, 1, (Option.some Jvm.ClassFile.FieldType.int), 1, 11, [(2, 12, 0, 0)], [(some (0, 0, (-2147483648), 2147483647), [])], zUC, (2, 180, 0, 0))
noncomputable def zφ_fauc (A : Nat → Nat) (Y : List (Nat × Nat)) (F : List (Nat × Nat × Nat)) (V : Nat → Nat → Int) : (Nat → Option Nat) → (Nat → Nat → Int) → List Int → Prop := fun P G ps => zMVc A Y F V P G ∧ ps.getD 0 0 = (A 0 : Int) ∧ zMc Y F
noncomputable def zψ_fauc (A : Nat → Nat) (Y : List (Nat × Nat)) (F : List (Nat × Nat × Nat)) (V : Nat → Nat → Int) : (Nat → Option Nat) → (Nat → Nat → Int) → List Int → (Nat → Option Nat) → (Nat → Nat → Int) → Int → Prop := fun P G ps P' G' rn => P' = P ∧ zMVc A Y F (zf_fauc V).2 P' G' ∧ rn = (zf_fauc V).1
theorem zX_fauc {l : Launch} {w : zk_W} (hWξ : zh_W w) (A : Nat → Nat) (Y : List (Nat × Nat)) (F : List (Nat × Nat × Nat)) (V : Nat → Nat → Int) : zk_metX l w zt_dv zt_TB zK_fauc (zp_A (zφ_fauc A Y F V)) (zp_B (zψ_fauc A Y F V)) ∧ zk_cok w zt_TB zK_fauc := by
  refine zp_methX (cn := "WoundTown") zp_lkallW hWξ (pl := 1042) rfl (by decide +kernel) (fun p e R s m args below meth c Q u hx hb hEξ hQξ hU5ξ heffξ hnLξ hokξ hφ => ?_)
  have hwξ := hWξ.1
  obtain ⟨p0ξ, hpsξ, tk0⟩ := zp_ps1 hokξ
  have hrmξ : zk_Kr (zk_ev (zt_types, zp_lkW, zt_dv, [], [], zp_lcW, zK_fauc)) = zk_Kr zK_fauc := rfl
  rw [hpsξ] at hφ ⊢
  have hφ : zMVc A Y F V u.1 (zp_n u.2.1) ∧ p0ξ = (A 0 : Int) ∧ zMc Y F := hφ
  obtain ⟨⟨M, hMξ, hVξ, hSbξ⟩, rfl, hYFξ⟩ := hφ
  have hYF0ξ := hYFξ
  obtain ⟨hYbξ, hFbξ, hFxξ, -⟩ := hYFξ
  show zp_J p l e R s m args below meth c Q w u [] 0 [(0, 2, (A 0 : Int))] [] u.1 (zp_n u.2.1)
  refine zp_load (pc := 0) hx hb (zd_X11_fault (0, .aload_n 0, 1, 0, []) (List.mem_of_getElem? (i := 0) rfl)) rfl (j := 0) rfl ?_
  refine zp_getf (n := (A 12 : Int)) (pc := 1) hx hb hEξ hwξ (zd_X11_fault (1, .getfield 76, 3, 0, []) (List.mem_of_getElem? (i := 1) rfl)) (j := 59) rfl rfl rfl (zM_P hMξ (hYbξ _ (List.mem_of_getElem? (i := 0) rfl))) ((zM_G hMξ (hYbξ _ (List.mem_of_getElem? (i := 0) rfl)) 9).trans (zM_F hMξ (hFbξ _ (List.mem_of_getElem? (i := 7) rfl)))) ?_
  refine zp_getf (n := (V 12 2)) (pc := 4) hx hb hEξ hwξ (zd_X11_fault (4, .getfield 286, 3, 0, []) (List.mem_of_getElem? (i := 2) rfl)) (j := 48) rfl rfl rfl (zM_P hMξ (hYbξ _ (List.mem_of_getElem? (i := 12) rfl))) ((zM_G hMξ (hYbξ _ (List.mem_of_getElem? (i := 12) rfl)) 2).trans (hVξ 12 2 (by decide))) ?_
  refine zp_kn (k := 2) (a := (A 12)) hwξ (show zp_fd 5 2 = some (5, 0, 0, (-2147483648), 2147483647) from rfl) rfl (zM_P hMξ (hYbξ _ (List.mem_of_getElem? (i := 12) rfl))) (fun hf260ξ => ?_)
  have hf260bξ := zp_int hf260ξ
  rw [((zM_G hMξ (hYbξ _ (List.mem_of_getElem? (i := 12) rfl)) 2).trans (hVξ 12 2 (by decide)))] at hf260bξ
  clear hf260ξ
  refine zp_iret (pc := 7) (n := (V 12 2)) hx hb hEξ hQξ hU5ξ rfl (by decide) (zd_X11_fault (7, .ireturn, 1, 0, []) (List.mem_of_getElem? (i := 3) rfl)) (j := 0) rfl (zp_o0 (by omega) (by omega) (by omega) (by omega)) ?_
  rw [hpsξ]
  refine ⟨rfl, ?_⟩
  have hffξ : zf_fauc V = ((V 12 2), V) := rfl
  show zMVc A Y F (zf_fauc V).2 u.1 (zp_n u.2.1) ∧ (V 12 2) = (zf_fauc V).1
  rw [hffξ]
  exact ⟨⟨M, hMξ, hVξ, trivial⟩, rfl⟩
noncomputable def zf_dutc (V : Nat → Nat → Int) : Int × (Nat → Nat → Int) := ((V 0 17), V)
noncomputable def zK_dutc : zk_K := (zt_mn 38, prog_1_method_13_code, 1, (Option.some Jvm.ClassFile.FieldType.int), 1, 11, [(2, 12, 0, 0)], [(some (0, 0, (-2147483648), 2147483647), [])], zUC, (2, 180, 0, 0))
noncomputable def zφ_dutc (A : Nat → Nat) (Y : List (Nat × Nat)) (F : List (Nat × Nat × Nat)) (V : Nat → Nat → Int) : (Nat → Option Nat) → (Nat → Nat → Int) → List Int → Prop := fun P G ps => zMVc A Y F V P G ∧ ps.getD 0 0 = (A 0 : Int) ∧ zMc Y F
noncomputable def zψ_dutc (A : Nat → Nat) (Y : List (Nat × Nat)) (F : List (Nat × Nat × Nat)) (V : Nat → Nat → Int) : (Nat → Option Nat) → (Nat → Nat → Int) → List Int → (Nat → Option Nat) → (Nat → Nat → Int) → Int → Prop := fun P G ps P' G' rn => P' = P ∧ zMVc A Y F (zf_dutc V).2 P' G' ∧ rn = (zf_dutc V).1
theorem zX_dutc {l : Launch} {w : zk_W} (hWξ : zh_W w) (A : Nat → Nat) (Y : List (Nat × Nat)) (F : List (Nat × Nat × Nat)) (V : Nat → Nat → Int) : zk_metX l w zt_dv zt_TB zK_dutc (zp_A (zφ_dutc A Y F V)) (zp_B (zψ_dutc A Y F V)) ∧ zk_cok w zt_TB zK_dutc := by
  refine zp_methX (cn := "WoundTown") zp_lkallW hWξ (pl := 700) rfl (by decide +kernel) (fun p e R s m args below meth c Q u hx hb hEξ hQξ hU5ξ heffξ hnLξ hokξ hφ => ?_)
  have hwξ := hWξ.1
  obtain ⟨p0ξ, hpsξ, tk0⟩ := zp_ps1 hokξ
  have hrmξ : zk_Kr (zk_ev (zt_types, zp_lkW, zt_dv, [], [], zp_lcW, zK_dutc)) = zk_Kr zK_dutc := rfl
  rw [hpsξ] at hφ ⊢
  have hφ : zMVc A Y F V u.1 (zp_n u.2.1) ∧ p0ξ = (A 0 : Int) ∧ zMc Y F := hφ
  obtain ⟨⟨M, hMξ, hVξ, hSbξ⟩, rfl, hYFξ⟩ := hφ
  have hYF0ξ := hYFξ
  obtain ⟨hYbξ, hFbξ, hFxξ, -⟩ := hYFξ
  show zp_J p l e R s m args below meth c Q w u [] 0 [(0, 2, (A 0 : Int))] [] u.1 (zp_n u.2.1)
  refine zp_load (pc := 0) hx hb (zd_X11_dust (0, .aload_n 0, 1, 0, []) (List.mem_of_getElem? (i := 0) rfl)) rfl (j := 0) rfl ?_
  refine zp_getf (n := (V 0 17)) (pc := 1) hx hb hEξ hwξ (zd_X11_dust (1, .getfield 196, 3, 0, []) (List.mem_of_getElem? (i := 1) rfl)) (j := 67) rfl rfl rfl (zM_P hMξ (hYbξ _ (List.mem_of_getElem? (i := 0) rfl))) ((zM_G hMξ (hYbξ _ (List.mem_of_getElem? (i := 0) rfl)) 17).trans (hVξ 0 17 (by decide))) ?_
  refine zp_kn (k := 17) (a := (A 0)) hwξ (show zp_fd 12 17 = some (11, 0, 0, (-2147483648), 2147483647) from rfl) rfl (zM_P hMξ (hYbξ _ (List.mem_of_getElem? (i := 0) rfl))) (fun hf261ξ => ?_)
  have hf261bξ := zp_int hf261ξ
  rw [((zM_G hMξ (hYbξ _ (List.mem_of_getElem? (i := 0) rfl)) 17).trans (hVξ 0 17 (by decide)))] at hf261bξ
  clear hf261ξ
  refine zp_iret (pc := 4) (n := (V 0 17)) hx hb hEξ hQξ hU5ξ rfl (by decide) (zd_X11_dust (4, .ireturn, 1, 0, []) (List.mem_of_getElem? (i := 2) rfl)) (j := 0) rfl (zp_o0 (by omega) (by omega) (by omega) (by omega)) ?_
  rw [hpsξ]
  refine ⟨rfl, ?_⟩
  have hffξ : zf_dutc V = ((V 0 17), V) := rfl
  show zMVc A Y F (zf_dutc V).2 u.1 (zp_n u.2.1) ∧ (V 0 17) = (zf_dutc V).1
  rw [hffξ]
  exact ⟨⟨M, hMξ, hVξ, trivial⟩, rfl⟩