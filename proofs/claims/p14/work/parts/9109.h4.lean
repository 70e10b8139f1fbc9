/-! part h4ξ: the reference over logical cells: answers told, what can be undone -/
/-- ints added as the machine does -/
noncomputable def zw_add (a b : Int) : Int := (zk_bn 0 (Int32.ofInt a) (Int32.ofInt b)).toInt
theorem zw_addb (a b : Int) : -2147483648 ≤ zw_add a b ∧ zw_add a b ≤ 2147483647 := by
  have h1ξ := Int32.le_toInt (zk_bn 0 (Int32.ofInt a) (Int32.ofInt b))
  have h2ξ := Int32.toInt_lt (zk_bn 0 (Int32.ofInt a) (Int32.ofInt b))
  unfold zw_add
  omega
/-- an answer is told -/
noncomputable def zT_tell (V : Nat → Nat → Int) (v : Int) : Nat → Nat → Int := if v < 0 then zp_set (zp_set V 0 1 v) 2 (2000 + (-v).toNat) (zw_add (V 2 (2000 + (-v).toNat)) 1) else zp_set V 0 1 0
/-- what stands is kept, to be undone -/
noncomputable def zT_rem (V : Nat → Nat → Int) (s : Int) (n : Nat) : Nat → Nat → Int :=
  if n = 16 then zp_set (zp_set (zc_cp (zp_set (zc_cp (zc_cp V 6 34 6 0 510) 7 1 7 0 15) 0 8 15) 3 5 6 (34 * 15) 34) 7 (2000 + 15) s) 0 8 16
  else zp_set (zp_set (zc_cp V 3 5 6 (34 * n) 34) 7 (2000 + n) s) 0 8 ((n : Int) + 1)
noncomputable def zT_undo (V : Nat → Nat → Int) (n : Nat) : Nat → Nat → Int :=
  if n = 0 then zT_tell (zp_set V 0 0 0) (-3)
  else zT_tell (zc_cp (zp_set (zp_set V 0 0 0) 0 8 ((n : Int) - 1)) 6 (34 * (n - 1)) 3 5 34) (V 7 (2000 + (n - 1)))
noncomputable def zK_tll : zk_K := (zt_mn 183, prog_14_method_7_code, 2, (Option.some Jvm.ClassFile.FieldType.int), 1, 12, [(2, 13, 0, 0), (0, 0, (-6), 2147483647)], [(some (0, 0, (-2147483648), 2147483647), [])], zUE, (0, 0, 0, 0))
noncomputable def zφ_tll (A : Nat → Nat) (V : Nat → Nat → Int) : (Nat → Option Nat) → (Nat → Nat → Int) → List Int → Prop := fun P G ps => zMVr A V P G ∧ ps.getD 0 0 = (A 0 : Int) ∧ -6 ≤ (ps.getD 1 0)
noncomputable def zψ_tll (A : Nat → Nat) (V : Nat → Nat → Int) : (Nat → Option Nat) → (Nat → Nat → Int) → List Int → (Nat → Option Nat) → (Nat → Nat → Int) → Int → Prop := fun P G ps P' G' rn => P' = P ∧ zMVr A (zT_tell V (ps.getD 1 0)) P' G' ∧ rn = (ps.getD 1 0)
theorem zX_tll {l : Launch} {w : zk_W} (hWξ : zh_W w) (A : Nat → Nat) (V : Nat → Nat → Int) : zk_metX l w zt_dv zt_TB zK_tll (zp_A (zφ_tll A V)) (zp_B (zψ_tll A V)) ∧ zk_cok w zt_TB zK_tll := by
  refine zp_methX (cn := "WoundTownModel") zp_lkall hWξ (pl := 1561) rfl (by decide +kernel) (fun p e R s m args below meth c Q u hx hb hEξ hQξ hU5ξ heffξ hnLξ hokξ hφ => ?_)
  have hwξ := hWξ.1
  obtain ⟨p0ξ, p1ξ, hpsξ, tk0, tk1⟩ := zp_ps2 hokξ
  have hrmξ : zk_Kr (zk_ev (zt_types, zp_lk, zt_dv, [], [], zp_lc, zK_tll)) = zk_Kr zK_tll := rfl
  rw [hpsξ] at hφ ⊢
  have hφ : zMVr A V u.1 (zp_n u.2.1) ∧ p0ξ = (A 0 : Int) ∧ -6 ≤ p1ξ := hφ
  obtain ⟨⟨M, hMξ, hVξ, hSbξ⟩, rfl, hv6ξ⟩ := hφ
  have hi1ξ := zp_int tk1
  show zp_J p l e R s m args below meth c Q w u [] 0 [(0, 2, (A 0 : Int)), (1, 0, p1ξ)] [] u.1 (zp_n u.2.1)
  by_cases hv0ξ : p1ξ < 0
  · obtain ⟨j9ξ, hj9ξ⟩ : ∃ j9ξ : Nat, -p1ξ = (j9ξ : Int) := zp_nat (by omega)
    have hj6ξ : (-p1ξ).toNat = j9ξ := by omega
    refine zp_load (pc := 0) hx hb (zd_X12_tell (0, .aload_n 0, 1, 0, []) (List.mem_of_getElem? (i := 0) rfl)) rfl (j := 0) rfl ?_
    refine zp_load (pc := 1) hx hb (zd_X12_tell (1, .iload_n 1, 1, 0, []) (List.mem_of_getElem? (i := 1) rfl)) rfl (j := 1) rfl ?_
    refine zp_if (pc := 2) (tgt := 9) hx hb (zd_X12_tell (2, .ifCond .ge 7, 3, 0, []) (List.mem_of_getElem? (i := 2) rfl)) rfl (fun (hc54ξ : 0 ≤ p1ξ) => ?_) (fun (hc54ξ : ¬ (0 ≤ p1ξ)) => ?_)
    · exfalso
      omega
    · refine zp_load (pc := 5) hx hb (zd_X12_tell (5, .iload_n 1, 1, 0, []) (List.mem_of_getElem? (i := 3) rfl)) rfl (j := 1) rfl ?_
      refine zp_goto (tgt := 10) (pc := 6) hx hb (zd_X12_tell (6, .goto 4, 3, 0, []) (List.mem_of_getElem? (i := 4) rfl)) rfl ?_
      refine zp_putf (pc := 10) hx hb hEξ hwξ heffξ (zd_X12_tell (10, .putfield 164, 3, 0, []) (List.mem_of_getElem? (i := 6) rfl)) (j := 19) rfl rfl rfl (zM_P hMξ (List.mem_of_getElem? (i := 0) rfl)) (zp_o0 (by omega) (by omega) (by omega) (by omega)) ?_
      refine zp_load (pc := 13) hx hb (zd_X12_tell (13, .iload_n 1, 1, 0, []) (List.mem_of_getElem? (i := 7) rfl)) rfl (j := 1) rfl ?_
      refine zp_if (pc := 14) (tgt := 28) hx hb (zd_X12_tell (14, .ifCond .ge 14, 3, 0, []) (List.mem_of_getElem? (i := 8) rfl)) rfl (fun (hc55ξ : 0 ≤ p1ξ) => ?_) (fun (hc55ξ : ¬ (0 ≤ p1ξ)) => ?_)
      · exfalso
        omega
      · refine zp_load (pc := 17) hx hb (zd_X12_tell (17, .aload_n 0, 1, 0, []) (List.mem_of_getElem? (i := 9) rfl)) rfl (j := 0) rfl ?_
        refine zp_getf (n := (A 2 : Int)) (pc := 18) hx hb hEξ hwξ (zd_X12_tell (18, .getfield 7, 3, 0, []) (List.mem_of_getElem? (i := 10) rfl)) (j := 20) rfl rfl rfl (zM_P hMξ (List.mem_of_getElem? (i := 0) rfl)) ((zp_set_ne (Or.inr (by decide))).trans (((zM_G hMξ (List.mem_of_getElem? (i := 0) rfl) 2).trans (zM_F hMξ (List.mem_of_getElem? (i := 0) rfl))))) ?_
        refine zp_load (pc := 21) hx hb (zd_X12_tell (21, .iload_n 1, 1, 0, []) (List.mem_of_getElem? (i := 11) rfl)) rfl (j := 1) rfl ?_
        refine zp_neg (n := (j9ξ : Int)) (pc := 22) hx hb (zd_X12_tell (22, .ineg, 1, 0, []) (List.mem_of_getElem? (i := 12) rfl)) (by omega) (zp_r0 (by omega) (by omega)) ?_
        refine zp_dup2 (pc := 23) hx hb (zd_X12_tell (23, .dup2, 1, 0, []) (List.mem_of_getElem? (i := 13) rfl)) (show (0 : Nat) ≠ 1 by decide) (show (2 : Nat) ≠ 1 by decide) ?_
        refine zp_iald (j := j9ξ) (v := (V 2 (2000 + j9ξ))) (pc := 24) hx hb hwξ (zd_X12_tell (24, .iaload, 1, 0, []) (List.mem_of_getElem? (i := 14) rfl)) (show zp_ia 1 58 = some (7, 0, 0, (-2147483648), 2147483647) from rfl) (zM_P hMξ (List.mem_of_getElem? (i := 1) rfl)) (by omega) (by omega) ((zp_set_ne (Or.inl (zM_ne hMξ (List.mem_of_getElem? (i := 1) rfl) (List.mem_of_getElem? (i := 0) rfl) (by decide)))).trans (((zM_G hMξ (List.mem_of_getElem? (i := 1) rfl) (2000 + j9ξ)).trans (hVξ 2 (2000 + j9ξ) (Or.inl (by decide)))))) (fun hk56ξ => ?_)
        have hk56bξ := zp_int hk56ξ
        clear hk56ξ
        refine zp_const (pc := 25) hx hb (zd_X12_tell (25, .iconst 1, 1, 0, []) (List.mem_of_getElem? (i := 15) rfl)) rfl rfl ?_
        refine zp_binx (o := 0) (n := (zw_add (V 2 (2000 + j9ξ)) 1)) (pc := 26) hx hb (zd_X12_tell (26, .iadd, 1, 0, []) (List.mem_of_getElem? (i := 16) rfl)) rfl (by decide) rfl ?_
        have hw57ξ := zw_addb (V 2 (2000 + j9ξ)) 1
        refine zp_iast (j := j9ξ) (pc := 27) hx hb hwξ heffξ (zd_X12_tell (27, .iastore, 1, 0, []) (List.mem_of_getElem? (i := 17) rfl)) (show zp_ia 1 58 = some (7, 0, 0, (-2147483648), 2147483647) from rfl) (zM_P hMξ (List.mem_of_getElem? (i := 1) rfl)) (by omega) (by omega) (zp_o0 (by omega) (by omega) (by omega) (by omega)) rfl ?_
        refine zp_load (pc := 28) hx hb (zd_X12_tell (28, .iload_n 1, 1, 0, []) (List.mem_of_getElem? (i := 18) rfl)) rfl (j := 1) rfl ?_
        refine zp_iret (pc := 29) (n := p1ξ) hx hb hEξ hQξ hU5ξ rfl (by decide) (zd_X12_tell (29, .ireturn, 1, 0, []) (List.mem_of_getElem? (i := 19) rfl)) (j := 0) rfl (zp_o0 (by omega) (by omega) (by omega) (by omega)) ?_
        rw [hpsξ]
        refine ⟨rfl, ?_⟩
        refine ⟨?_, rfl⟩
        show zMVr A (zT_tell V p1ξ) u.1 _
        unfold zT_tell
        rw [if_pos hv0ξ, hj6ξ]
        exact ⟨(zp_set (zp_set M 0 1 p1ξ) 2 (2000 + j9ξ) (zw_add (V 2 (2000 + j9ξ)) 1)), (zM_setE (zM_set hMξ (List.mem_of_getElem? (i := 0) rfl) (by decide)) (List.mem_of_getElem? (i := 1) rfl)), (zV_set (zV_set hVξ)), (zSb_set (by decide) (zSb_set (by decide) hSbξ))⟩
  · refine zp_load (pc := 0) hx hb (zd_X12_tell (0, .aload_n 0, 1, 0, []) (List.mem_of_getElem? (i := 0) rfl)) rfl (j := 0) rfl ?_
    refine zp_load (pc := 1) hx hb (zd_X12_tell (1, .iload_n 1, 1, 0, []) (List.mem_of_getElem? (i := 1) rfl)) rfl (j := 1) rfl ?_
    refine zp_if (pc := 2) (tgt := 9) hx hb (zd_X12_tell (2, .ifCond .ge 7, 3, 0, []) (List.mem_of_getElem? (i := 2) rfl)) rfl (fun (hc58ξ : 0 ≤ p1ξ) => ?_) (fun (hc58ξ : ¬ (0 ≤ p1ξ)) => ?_)
    · refine zp_const (pc := 9) hx hb (zd_X12_tell (9, .iconst 0, 1, 0, []) (List.mem_of_getElem? (i := 5) rfl)) rfl rfl ?_
      refine zp_putf (pc := 10) hx hb hEξ hwξ heffξ (zd_X12_tell (10, .putfield 164, 3, 0, []) (List.mem_of_getElem? (i := 6) rfl)) (j := 19) rfl rfl rfl (zM_P hMξ (List.mem_of_getElem? (i := 0) rfl)) (zp_o0 (by decide) (by decide) (by decide) (by decide)) ?_
      refine zp_load (pc := 13) hx hb (zd_X12_tell (13, .iload_n 1, 1, 0, []) (List.mem_of_getElem? (i := 7) rfl)) rfl (j := 1) rfl ?_
      refine zp_if (pc := 14) (tgt := 28) hx hb (zd_X12_tell (14, .ifCond .ge 14, 3, 0, []) (List.mem_of_getElem? (i := 8) rfl)) rfl (fun (hc59ξ : 0 ≤ p1ξ) => ?_) (fun (hc59ξ : ¬ (0 ≤ p1ξ)) => ?_)
      · refine zp_load (pc := 28) hx hb (zd_X12_tell (28, .iload_n 1, 1, 0, []) (List.mem_of_getElem? (i := 18) rfl)) rfl (j := 1) rfl ?_
        refine zp_iret (pc := 29) (n := p1ξ) hx hb hEξ hQξ hU5ξ rfl (by decide) (zd_X12_tell (29, .ireturn, 1, 0, []) (List.mem_of_getElem? (i := 19) rfl)) (j := 0) rfl (zp_o0 (by omega) (by omega) (by omega) (by omega)) ?_
        rw [hpsξ]
        refine ⟨rfl, ?_⟩
        refine ⟨?_, rfl⟩
        show zMVr A (zT_tell V p1ξ) u.1 _
        unfold zT_tell
        rw [if_neg hv0ξ]
        exact ⟨(zp_set M 0 1 0), (zM_set hMξ (List.mem_of_getElem? (i := 0) rfl) (by decide)), (zV_set hVξ), (zSb_set (by decide) hSbξ)⟩
      · exfalso
        omega
    · exfalso
      omega
noncomputable def zK_chg : zk_K := (zt_mn 190, prog_14_method_8_code, 4, (Option.some Jvm.ClassFile.FieldType.int), 1, 12, [(2, 13, 0, 0), (0, 0, 0, 179), (0, 0, (-2147483648), 2147483647)], [(some (0, 0, (-2147483648), 2147483647), [])], zUE, (0, 0, 0, 0))
noncomputable def zφ_chg (A : Nat → Nat) (V : Nat → Nat → Int) (j1ξ : Nat) : (Nat → Option Nat) → (Nat → Nat → Int) → List Int → Prop := fun P G ps => zMVr A V P G ∧ ps.getD 0 0 = (A 0 : Int) ∧ (ps.getD 1 0) = (j1ξ : Int) ∧ j1ξ < 180 ∧ (-2147483648 ≤ V 3 (2000 + j1ξ) ∧ V 3 (2000 + j1ξ) ≤ 2147483647) ∧ (zk_fj zl_T j1ξ).2.2.1 ≤ (ps.getD 2 0) ∧ (ps.getD 2 0) ≤ (zk_fj zl_T j1ξ).2.2.2
noncomputable def zψ_chg (A : Nat → Nat) (V : Nat → Nat → Int) (j1ξ : Nat) : (Nat → Option Nat) → (Nat → Nat → Int) → List Int → (Nat → Option Nat) → (Nat → Nat → Int) → Int → Prop := fun P G ps P' G' rn => P' = P ∧ zMVr A (zp_set (zp_set V 3 (2000 + j1ξ) (ps.getD 2 0)) 0 1 0) P' G' ∧ rn = V 3 (2000 + j1ξ)
theorem zX_chg {l : Launch} {w : zk_W} (hWξ : zh_W w) (A : Nat → Nat) (V : Nat → Nat → Int) (j1ξ : Nat) : zk_metX l w zt_dv zt_TB zK_chg (zp_A (zφ_chg A V j1ξ)) (zp_B (zψ_chg A V j1ξ)) ∧ zk_cok w zt_TB zK_chg := by
  refine zp_methX (cn := "WoundTownModel") zp_lkall hWξ (pl := 1590) rfl (by decide +kernel) (fun p e R s m args below meth c Q u hx hb hEξ hQξ hU5ξ heffξ hnLξ hokξ hφ => ?_)
  have hwξ := hWξ.1
  obtain ⟨p0ξ, p1ξ, p2ξ, hpsξ, tk0, tk1, tk2⟩ := zp_ps3 hokξ
  have hrmξ : zk_Kr (zk_ev (zt_types, zp_lk, zt_dv, [], [], zp_lc, zK_chg)) = zk_Kr zK_chg := rfl
  rw [hpsξ] at hφ ⊢
  have hφ : zMVr A V u.1 (zp_n u.2.1) ∧ p0ξ = (A 0 : Int) ∧ p1ξ = (j1ξ : Int) ∧ j1ξ < 180 ∧ (-2147483648 ≤ V 3 (2000 + j1ξ) ∧ V 3 (2000 + j1ξ) ≤ 2147483647) ∧ (zk_fj zl_T j1ξ).2.2.1 ≤ p2ξ ∧ p2ξ ≤ (zk_fj zl_T j1ξ).2.2.2 := hφ
  obtain ⟨⟨M, hMξ, hVξ, hSbξ⟩, rfl, rfl, hj1ξ, hEbξ, hloξ, hhiξ⟩ := hφ
  have hi1ξ := zp_int tk1
  have hi2ξ := zp_int tk2
  show zp_J p l e R s m args below meth c Q w u [] 0 [(0, 2, (A 0 : Int)), (1, 0, (j1ξ : Int)), (2, 0, p2ξ)] [] u.1 (zp_n u.2.1)
  refine zp_load (pc := 0) hx hb (zd_X12_change (0, .aload_n 0, 1, 0, []) (List.mem_of_getElem? (i := 0) rfl)) rfl (j := 0) rfl ?_
  refine zp_getf (n := (A 3 : Int)) (pc := 1) hx hb hEξ hwξ (zd_X12_change (1, .getfield 13, 3, 0, []) (List.mem_of_getElem? (i := 1) rfl)) (j := 21) rfl rfl rfl (zM_P hMξ (List.mem_of_getElem? (i := 0) rfl)) ((zM_G hMξ (List.mem_of_getElem? (i := 0) rfl) 3).trans (zM_F hMξ (List.mem_of_getElem? (i := 1) rfl))) ?_
  refine zp_load (pc := 4) hx hb (zd_X12_change (4, .iload_n 1, 1, 0, []) (List.mem_of_getElem? (i := 2) rfl)) rfl (j := 1) rfl ?_
  refine zp_ialdT (j := j1ξ) (v := (V 3 (2000 + j1ξ))) (pc := 5) hx hb hwξ (zd_X12_change (5, .iaload, 1, 0, []) (List.mem_of_getElem? (i := 3) rfl)) zl_T59 rfl (zl_kd (j1ξ)) (zM_P hMξ (List.mem_of_getElem? (i := 2) rfl)) (by omega) (show j1ξ < 5580 by omega) ((zM_G hMξ (List.mem_of_getElem? (i := 2) rfl) (2000 + j1ξ)).trans (hVξ 3 (2000 + j1ξ) (Or.inl (by decide)))) (fun _ => ?_)
  refine zp_store (L' := [(3, 0, (V 3 (2000 + j1ξ))), (0, 2, (A 0 : Int)), (1, 0, (j1ξ : Int)), (2, 0, p2ξ)]) (pc := 6) hx hb hnLξ (zd_X12_change (6, .istore_n 3, 1, 0, []) (List.mem_of_getElem? (i := 4) rfl)) rfl rfl rfl ?_
  refine zp_load (pc := 7) hx hb (zd_X12_change (7, .aload_n 0, 1, 0, []) (List.mem_of_getElem? (i := 5) rfl)) rfl (j := 1) rfl ?_
  refine zp_getf (n := (A 3 : Int)) (pc := 8) hx hb hEξ hwξ (zd_X12_change (8, .getfield 13, 3, 0, []) (List.mem_of_getElem? (i := 6) rfl)) (j := 21) rfl rfl rfl (zM_P hMξ (List.mem_of_getElem? (i := 0) rfl)) ((zM_G hMξ (List.mem_of_getElem? (i := 0) rfl) 3).trans (zM_F hMξ (List.mem_of_getElem? (i := 1) rfl))) ?_
  refine zp_load (pc := 11) hx hb (zd_X12_change (11, .iload_n 1, 1, 0, []) (List.mem_of_getElem? (i := 7) rfl)) rfl (j := 2) rfl ?_
  refine zp_load (pc := 12) hx hb (zd_X12_change (12, .iload_n 2, 1, 0, []) (List.mem_of_getElem? (i := 8) rfl)) rfl (j := 3) rfl ?_
  refine zp_iastR (j := j1ξ) (pc := 13) hx hb hwξ heffξ (zd_X12_change (13, .iastore, 1, 0, []) (List.mem_of_getElem? (i := 9) rfl)) (zM_P hMξ (List.mem_of_getElem? (i := 2) rfl)) (by omega) (show j1ξ < 180 by omega) (zr_st ⟨zl_kd j1ξ, rfl, rfl⟩ hloξ hhiξ (by omega) (by omega)) ⟨1002, rfl, zp_1002 (by omega)⟩ ?_
  refine zp_load (pc := 14) hx hb (zd_X12_change (14, .aload_n 0, 1, 0, []) (List.mem_of_getElem? (i := 10) rfl)) rfl (j := 1) rfl ?_
  refine zp_const (pc := 15) hx hb (zd_X12_change (15, .iconst 0, 1, 0, []) (List.mem_of_getElem? (i := 11) rfl)) rfl rfl ?_
  refine zp_putf (pc := 16) hx hb hEξ hwξ heffξ (zd_X12_change (16, .putfield 164, 3, 0, []) (List.mem_of_getElem? (i := 12) rfl)) (j := 19) rfl rfl rfl (zM_P hMξ (List.mem_of_getElem? (i := 0) rfl)) (zp_o0 (by decide) (by decide) (by decide) (by decide)) ?_
  refine zp_load (pc := 19) hx hb (zd_X12_change (19, .iload_n 3, 1, 0, []) (List.mem_of_getElem? (i := 13) rfl)) rfl (j := 0) rfl ?_
  refine zp_iret (pc := 20) (n := (V 3 (2000 + j1ξ))) hx hb hEξ hQξ hU5ξ rfl (by decide) (zd_X12_change (20, .ireturn, 1, 0, []) (List.mem_of_getElem? (i := 14) rfl)) (j := 0) rfl (zp_o0 (by omega) (by omega) (by omega) (by omega)) ?_
  rw [hpsξ]
  refine ⟨rfl, ?_⟩
  exact ⟨⟨(zp_set (zp_set M 3 (2000 + j1ξ) p2ξ) 0 1 0), (zM_set (zM_setE hMξ (List.mem_of_getElem? (i := 2) rfl)) (List.mem_of_getElem? (i := 0) rfl) (by decide)), (zV_set (zV_set hVξ)), (zSb_set (by decide) (zSb_set (by decide) hSbξ))⟩, rfl⟩
noncomputable def zf_stl (V : Nat → Nat → Int) (p1ξ : Int) : Int × (Nat → Nat → Int) := if 0 ≤ p1ξ then (p1ξ, (zT_tell (zp_set V 0 8 0) p1ξ)) else (p1ξ, (zT_tell (zp_set V 0 8 (V 0 8)) p1ξ))
noncomputable def zK_stl : zk_K := (zt_mn 188, prog_14_method_9_code, 2, (Option.some Jvm.ClassFile.FieldType.int), 1, 12, [(2, 13, 0, 0), (0, 0, (-6), 2147483647)], [(some (0, 0, (-2147483648), 2147483647), [])], zUE, (1, 60, 0, 0))
noncomputable def zφ_stl (A : Nat → Nat) (V : Nat → Nat → Int) : (Nat → Option Nat) → (Nat → Nat → Int) → List Int → Prop := fun P G ps => zMVr A V P G ∧ ps.getD 0 0 = (A 0 : Int) ∧ -6 ≤ (ps.getD 1 0)
noncomputable def zψ_stl (A : Nat → Nat) (V : Nat → Nat → Int) : (Nat → Option Nat) → (Nat → Nat → Int) → List Int → (Nat → Option Nat) → (Nat → Nat → Int) → Int → Prop := fun P G ps P' G' rn => P' = P ∧ zMVr A (zf_stl V (ps.getD 1 0)).2 P' G' ∧ rn = (zf_stl V (ps.getD 1 0)).1
theorem zX_stl {l : Launch} {w : zk_W} (hWξ : zh_W w) (A : Nat → Nat) (V : Nat → Nat → Int) : zk_metX l w zt_dv zt_TB zK_stl (zp_A (zφ_stl A V)) (zp_B (zψ_stl A V)) ∧ zk_cok w zt_TB zK_stl := by
  refine zp_methX (cn := "WoundTownModel") zp_lkall hWξ (pl := 1580) rfl (by decide +kernel) (fun p e R s m args below meth c Q u hx hb hEξ hQξ hU5ξ heffξ hnLξ hokξ hφ => ?_)
  have hwξ := hWξ.1
  obtain ⟨p0ξ, p1ξ, hpsξ, tk0, tk1⟩ := zp_ps2 hokξ
  have hrmξ : zk_Kr (zk_ev (zt_types, zp_lk, zt_dv, [], [], zp_lc, zK_stl)) = zk_Kr zK_stl := rfl
  rw [hpsξ] at hφ ⊢
  have hφ : zMVr A V u.1 (zp_n u.2.1) ∧ p0ξ = (A 0 : Int) ∧ -6 ≤ p1ξ := hφ
  obtain ⟨⟨M, hMξ, hVξ, hSbξ⟩, rfl, hv6ξ⟩ := hφ
  have hi1ξ := zp_int tk1
  show zp_J p l e R s m args below meth c Q w u [] 0 [(0, 2, (A 0 : Int)), (1, 0, p1ξ)] [] u.1 (zp_n u.2.1)
  refine zp_load (pc := 0) hx hb (zd_X12_settled (0, .aload_n 0, 1, 0, []) (List.mem_of_getElem? (i := 0) rfl)) rfl (j := 0) rfl ?_
  refine zp_load (pc := 1) hx hb (zd_X12_settled (1, .iload_n 1, 1, 0, []) (List.mem_of_getElem? (i := 1) rfl)) rfl (j := 1) rfl ?_
  refine zp_if (pc := 2) (tgt := 12) hx hb (zd_X12_settled (2, .ifCond .ge 10, 3, 0, []) (List.mem_of_getElem? (i := 2) rfl)) rfl (fun (hc61ξ : 0 ≤ p1ξ) => ?_) (fun (hc61ξ : ¬ (0 ≤ p1ξ)) => ?_)
  · refine zp_const (pc := 12) hx hb (zd_X12_settled (12, .iconst 0, 1, 0, []) (List.mem_of_getElem? (i := 6) rfl)) rfl rfl ?_
    refine zp_putf (pc := 13) hx hb hEξ hwξ heffξ (zd_X12_settled (13, .putfield 167, 3, 0, []) (List.mem_of_getElem? (i := 7) rfl)) (j := 26) rfl rfl rfl (zM_P hMξ (List.mem_of_getElem? (i := 0) rfl)) (zp_o0 (by decide) (by decide) (by decide) (by decide)) ?_
    refine zp_load (pc := 16) hx hb (zd_X12_settled (16, .aload_n 0, 1, 0, []) (List.mem_of_getElem? (i := 8) rfl)) rfl (j := 0) rfl ?_
    refine zp_load (pc := 17) hx hb (zd_X12_settled (17, .iload_n 1, 1, 0, []) (List.mem_of_getElem? (i := 9) rfl)) rfl (j := 1) rfl ?_
    refine zp_call (pc := 18) (how := 0) (idx := 170) (mi := 183) (S := []) hx hb hEξ hwξ heffξ hrmξ (zX_tll hWξ A (zp_set V 0 8 0)) rfl (j := 0) rfl rfl (by decide +kernel) (zd_X12_settled (18, .invokevirtual 170, 3, 0, []) (List.mem_of_getElem? (i := 10) rfl)) [(A 0 : Int), p1ξ] rfl ⟨zp_o2 (zM_P hMξ (List.mem_of_getElem? (i := 0) rfl)), zp_o0 (by omega) (by omega) (by omega) (by omega), trivial⟩ (Nat.le_of_ble_eq_true rfl) ⟨⟨(zp_set M 0 8 0), (zM_set hMξ (List.mem_of_getElem? (i := 0) rfl) (by decide)), (zV_set hVξ), (zSb_set (by decide) hSbξ)⟩, rfl, (show -6 ≤ p1ξ by omega)⟩ (fun al halξ rnt62ξ Pt62 Gt62 hextt62ξ hfrt62ξ hokt62ξ hcst62ξ hpsit62ξ => ?_)
    obtain rfl := List.mem_singleton.mp halξ
    have hrt62ξ := zp_int (hokt62ξ _ rfl).1
    obtain ⟨hPet62ξ, ⟨Mt62, hMt62ξ, hVt62ξ, hSbt62ξ⟩, htt62ξ⟩ := hpsit62ξ
    subst hPet62ξ
    clear hextt62ξ hfrt62ξ hcst62ξ hokt62ξ
    have hVt62ξ : ∀ o k, zNs o k → Mt62 o k = (zT_tell (zp_set V 0 8 0) p1ξ) o k := hVt62ξ
    have htt62ξ : rnt62ξ = p1ξ := htt62ξ
    have htt62ξ := (Eq.symm htt62ξ)
    subst htt62ξ
    refine zp_iret (pc := 21) (n := p1ξ) hx hb hEξ hQξ hU5ξ rfl (by decide) (zd_X12_settled (21, .ireturn, 1, 0, []) (List.mem_of_getElem? (i := 11) rfl)) (j := 0) rfl (zp_o0 (by omega) (by omega) (by omega) (by omega)) ?_
    rw [hpsξ]
    refine ⟨rfl, ?_⟩
    have hffξ : zf_stl V p1ξ = (p1ξ, (zT_tell (zp_set V 0 8 0) p1ξ)) := by
      unfold zf_stl
      rw [if_pos hc61ξ]
    show zMVr A (zf_stl V p1ξ).2 u.1 Gt62 ∧ p1ξ = (zf_stl V p1ξ).1
    rw [hffξ]
    exact ⟨⟨Mt62, hMt62ξ, hVt62ξ, hSbt62ξ⟩, rfl⟩
  · refine zp_load (pc := 5) hx hb (zd_X12_settled (5, .aload_n 0, 1, 0, []) (List.mem_of_getElem? (i := 3) rfl)) rfl (j := 0) rfl ?_
    refine zp_getf (n := (V 0 8)) (pc := 6) hx hb hEξ hwξ (zd_X12_settled (6, .getfield 167, 3, 0, []) (List.mem_of_getElem? (i := 4) rfl)) (j := 26) rfl rfl rfl (zM_P hMξ (List.mem_of_getElem? (i := 0) rfl)) ((zM_G hMξ (List.mem_of_getElem? (i := 0) rfl) 8).trans (hVξ 0 8 (Or.inr (by decide)))) ?_
    refine zp_kn (k := 8) (a := (A 0)) hwξ (show zp_fd 13 8 = some (12, 0, 0, 0, 16) from rfl) rfl (zM_P hMξ (List.mem_of_getElem? (i := 0) rfl)) (fun hf63ξ => ?_)
    have hf63bξ := zp_int hf63ξ
    rw [((zM_G hMξ (List.mem_of_getElem? (i := 0) rfl) 8).trans (hVξ 0 8 (Or.inr (by decide))))] at hf63bξ
    clear hf63ξ
    refine zp_goto (tgt := 13) (pc := 9) hx hb (zd_X12_settled (9, .goto 4, 3, 0, []) (List.mem_of_getElem? (i := 5) rfl)) rfl ?_
    refine zp_putf (pc := 13) hx hb hEξ hwξ heffξ (zd_X12_settled (13, .putfield 167, 3, 0, []) (List.mem_of_getElem? (i := 7) rfl)) (j := 26) rfl rfl rfl (zM_P hMξ (List.mem_of_getElem? (i := 0) rfl)) (zp_o0 (by omega) (by omega) (by omega) (by omega)) ?_
    refine zp_load (pc := 16) hx hb (zd_X12_settled (16, .aload_n 0, 1, 0, []) (List.mem_of_getElem? (i := 8) rfl)) rfl (j := 0) rfl ?_
    refine zp_load (pc := 17) hx hb (zd_X12_settled (17, .iload_n 1, 1, 0, []) (List.mem_of_getElem? (i := 9) rfl)) rfl (j := 1) rfl ?_
    refine zp_call (pc := 18) (how := 0) (idx := 170) (mi := 183) (S := []) hx hb hEξ hwξ heffξ hrmξ (zX_tll hWξ A (zp_set V 0 8 (V 0 8))) rfl (j := 0) rfl rfl (by decide +kernel) (zd_X12_settled (18, .invokevirtual 170, 3, 0, []) (List.mem_of_getElem? (i := 10) rfl)) [(A 0 : Int), p1ξ] rfl ⟨zp_o2 (zM_P hMξ (List.mem_of_getElem? (i := 0) rfl)), zp_o0 (by omega) (by omega) (by omega) (by omega), trivial⟩ (Nat.le_of_ble_eq_true rfl) ⟨⟨(zp_set M 0 8 (V 0 8)), (zM_set hMξ (List.mem_of_getElem? (i := 0) rfl) (by decide)), (zV_set hVξ), (zSb_set (by decide) hSbξ)⟩, rfl, (show -6 ≤ p1ξ by omega)⟩ (fun al halξ rnt64ξ Pt64 Gt64 hextt64ξ hfrt64ξ hokt64ξ hcst64ξ hpsit64ξ => ?_)
    obtain rfl := List.mem_singleton.mp halξ
    have hrt64ξ := zp_int (hokt64ξ _ rfl).1
    obtain ⟨hPet64ξ, ⟨Mt64, hMt64ξ, hVt64ξ, hSbt64ξ⟩, htt64ξ⟩ := hpsit64ξ
    subst hPet64ξ
    clear hextt64ξ hfrt64ξ hcst64ξ hokt64ξ
    have hVt64ξ : ∀ o k, zNs o k → Mt64 o k = (zT_tell (zp_set V 0 8 (V 0 8)) p1ξ) o k := hVt64ξ
    have htt64ξ : rnt64ξ = p1ξ := htt64ξ
    have htt64ξ := (Eq.symm htt64ξ)
    subst htt64ξ
    refine zp_iret (pc := 21) (n := p1ξ) hx hb hEξ hQξ hU5ξ rfl (by decide) (zd_X12_settled (21, .ireturn, 1, 0, []) (List.mem_of_getElem? (i := 11) rfl)) (j := 0) rfl (zp_o0 (by omega) (by omega) (by omega) (by omega)) ?_
    rw [hpsξ]
    refine ⟨rfl, ?_⟩
    have hffξ : zf_stl V p1ξ = (p1ξ, (zT_tell (zp_set V 0 8 (V 0 8)) p1ξ)) := by
      unfold zf_stl
      rw [if_neg hc61ξ]
    show zMVr A (zf_stl V p1ξ).2 u.1 Gt64 ∧ p1ξ = (zf_stl V p1ξ).1
    rw [hffξ]
    exact ⟨⟨Mt64, hMt64ξ, hVt64ξ, hSbt64ξ⟩, rfl⟩
theorem zf_stl1 (V : Nat → Nat → Int) (p1ξ : Int) : (zf_stl V p1ξ).1 = p1ξ := by
  unfold zf_stl
  split <;> rfl
noncomputable def zK_rem : zk_K := (zt_mn 277, prog_14_method_12_code, 3, (Option.none : Option Jvm.ClassFile.FieldType), 1, 12, [(2, 13, 0, 0), (0, 0, 0, 3)], [(none, [])], zUE, (1, 60, 0, 0))
noncomputable def zφ_rem (A : Nat → Nat) (V : Nat → Nat → Int) (n1ξ : Nat) : (Nat → Option Nat) → (Nat → Nat → Int) → List Int → Prop := fun P G ps => zMVr A V P G ∧ ps.getD 0 0 = (A 0 : Int) ∧ V 0 8 = (n1ξ : Int) ∧ n1ξ ≤ 16
noncomputable def zψ_rem (A : Nat → Nat) (V : Nat → Nat → Int) (n1ξ : Nat) : (Nat → Option Nat) → (Nat → Nat → Int) → List Int → (Nat → Option Nat) → (Nat → Nat → Int) → Int → Prop := fun P G ps P' G' rn => P' = P ∧ zMVr A (zT_rem V (ps.getD 1 0) n1ξ) P' G'
theorem zX_rem {l : Launch} {w : zk_W} (hWξ : zh_W w) (A : Nat → Nat) (V : Nat → Nat → Int) (n1ξ : Nat) : zk_metX l w zt_dv zt_TB zK_rem (zp_A (zφ_rem A V n1ξ)) (zp_B (zψ_rem A V n1ξ)) ∧ zk_cok w zt_TB zK_rem := by
  refine zp_methX (cn := "WoundTownModel") zp_lkall hWξ (pl := 1962) rfl (by decide +kernel) (fun p e R s m args below meth c Q u hx hb hEξ hQξ hU5ξ heffξ hnLξ hokξ hφ => ?_)
  have hwξ := hWξ.1
  obtain ⟨p0ξ, p1ξ, hpsξ, tk0, tk1⟩ := zp_ps2 hokξ
  have hrmξ : zk_Kr (zk_ev (zt_types, zp_lk, zt_dv, [], [], zp_lc, zK_rem)) = zk_Kr zK_rem := rfl
  rw [hpsξ] at hφ ⊢
  have hφ : zMVr A V u.1 (zp_n u.2.1) ∧ p0ξ = (A 0 : Int) ∧ V 0 8 = (n1ξ : Int) ∧ n1ξ ≤ 16 := hφ
  obtain ⟨⟨M, hMξ, hVξ, hSbξ⟩, rfl, h8ξ, hn16ξ⟩ := hφ
  have hi1ξ := zp_int tk1
  show zp_J p l e R s m args below meth c Q w u [] 0 [(0, 2, (A 0 : Int)), (1, 0, p1ξ)] [] u.1 (zp_n u.2.1)
  by_cases hnξ : n1ξ = 16
  · subst hnξ
    have loop2 : ∀ (r9ξ i9ξ : Nat) (G : Nat → Nat → Int), r9ξ + i9ξ = 15 → zMVr A (zc_cp (zc_cp V 6 34 6 0 510) 7 1 7 0 i9ξ) u.1 G → zp_J p l e R s m args below meth c Q w u [] 41 [(2, 0, (i9ξ : Int)), (0, 2, (A 0 : Int)), (1, 0, p1ξ)] [] u.1 G := by
      intro r9ξ
      induction r9ξ with
      | zero =>
        intro i9ξ G hrξ hMV9ξ
        obtain rfl : i9ξ = 15 := by omega
        obtain ⟨M9ξ, hM9ξ, hV9ξ, hSb9ξ⟩ := hMV9ξ
        show zp_J p l e R s m args below meth c Q w u [] 41 [(2, 0, 15), (0, 2, (A 0 : Int)), (1, 0, p1ξ)] [] u.1 G
        refine zp_load (pc := 41) hx hb (zd_X12_remember (41, .iload_n 2, 1, 0, []) (List.mem_of_getElem? (i := 23) rfl)) rfl (j := 0) rfl ?_
        refine zp_const (pc := 42) hx hb (zd_X12_remember (42, .bipush 15, 2, 0, []) (List.mem_of_getElem? (i := 24) rfl)) rfl rfl ?_
        refine zp_icmp (pc := 44) (tgt := 67) hx hb (zd_X12_remember (44, .if_icmp .ge 23, 3, 0, []) (List.mem_of_getElem? (i := 25) rfl)) rfl (fun (hc65ξ : 15 ≤ (15 : Int)) => ?_) (fun (hc65ξ : ¬ (15 ≤ (15 : Int))) => ?_)
        · refine zp_load (pc := 67) hx hb (zd_X12_remember (67, .aload_n 0, 1, 0, []) (List.mem_of_getElem? (i := 38) rfl)) rfl (j := 1) rfl ?_
          refine zp_dup (pc := 68) hx hb (zd_X12_remember (68, .dup, 1, 0, []) (List.mem_of_getElem? (i := 39) rfl)) (show (2 : Nat) ≠ 1 by decide) ?_
          refine zp_getf (n := 16) (pc := 69) hx hb hEξ hwξ (zd_X12_remember (69, .getfield 167, 3, 0, []) (List.mem_of_getElem? (i := 40) rfl)) (j := 26) rfl rfl rfl (zM_P hM9ξ (List.mem_of_getElem? (i := 0) rfl)) (((zM_G hM9ξ (List.mem_of_getElem? (i := 0) rfl) 8).trans (hV9ξ 0 8 (Or.inr (by decide)))).trans ((zc_cp_f (by decide)).trans ((zc_cp_f (by decide)).trans h8ξ))) ?_
          refine zp_const (pc := 72) hx hb (zd_X12_remember (72, .iconst 1, 1, 0, []) (List.mem_of_getElem? (i := 41) rfl)) rfl rfl ?_
          refine zp_sub (n := 15) (pc := 73) hx hb (zd_X12_remember (73, .isub, 1, 0, []) (List.mem_of_getElem? (i := 42) rfl)) (by omega) (zp_r0 (by omega) (by omega)) ?_
          refine zp_putf (pc := 74) hx hb hEξ hwξ heffξ (zd_X12_remember (74, .putfield 167, 3, 0, []) (List.mem_of_getElem? (i := 43) rfl)) (j := 26) rfl rfl rfl (zM_P hM9ξ (List.mem_of_getElem? (i := 0) rfl)) (zp_o0 (by decide) (by decide) (by decide) (by decide)) ?_
          refine zp_load (pc := 77) hx hb (zd_X12_remember (77, .aload_n 0, 1, 0, []) (List.mem_of_getElem? (i := 44) rfl)) rfl (j := 1) rfl ?_
          refine zp_load (pc := 78) hx hb (zd_X12_remember (78, .aload_n 0, 1, 0, []) (List.mem_of_getElem? (i := 45) rfl)) rfl (j := 1) rfl ?_
          refine zp_getf (n := 15) (pc := 79) hx hb hEξ hwξ (zd_X12_remember (79, .getfield 167, 3, 0, []) (List.mem_of_getElem? (i := 46) rfl)) (j := 26) rfl rfl rfl (zM_P hM9ξ (List.mem_of_getElem? (i := 0) rfl)) zp_set_self ?_
          refine zp_call (pc := 82) (how := 0) (idx := 174) (mi := 264) (S := []) hx hb hEξ hwξ heffξ hrmξ (zX_kal hWξ A (zp_set (zc_cp (zc_cp V 6 34 6 0 510) 7 1 7 0 15) 0 8 15) 15) rfl (j := 57) rfl rfl (by decide +kernel) (zd_X12_remember (82, .invokevirtual 174, 3, 0, []) (List.mem_of_getElem? (i := 47) rfl)) [(A 0 : Int), 15] rfl ⟨zp_o2 (zM_P hM9ξ (List.mem_of_getElem? (i := 0) rfl)), zp_o0 (by omega) (by omega) (by omega) (by omega), trivial⟩ (Nat.le_of_ble_eq_true rfl) ⟨⟨(zp_set M9ξ 0 8 15), (zM_set hM9ξ (List.mem_of_getElem? (i := 0) rfl) (by decide)), (zV_set hV9ξ), (zSb_set (by decide) hSb9ξ)⟩, rfl, rfl⟩ (fun al halξ rnk66ξ Pk66 Gk66 hextk66ξ hfrk66ξ hokk66ξ hcsk66ξ hpsik66ξ => ?_)
          obtain rfl := List.mem_singleton.mp halξ
          obtain ⟨hPek66ξ, Mk66, hMk66ξ, hVk66ξ, hSbk66ξ⟩ := hpsik66ξ
          subst hPek66ξ
          clear hextk66ξ hfrk66ξ hcsk66ξ hokk66ξ
          have hVk66ξ : ∀ o k, zNs o k → Mk66 o k = (zc_cp (zp_set (zc_cp (zc_cp V 6 34 6 0 510) 7 1 7 0 15) 0 8 15) 3 5 6 (34 * 15) 34) o k := hVk66ξ
          refine zp_load (pc := 85) hx hb (zd_X12_remember (85, .aload_n 0, 1, 0, []) (List.mem_of_getElem? (i := 48) rfl)) rfl (j := 1) rfl ?_
          refine zp_getf (n := (A 7 : Int)) (pc := 86) hx hb hEξ hwξ (zd_X12_remember (86, .getfield 26, 3, 0, []) (List.mem_of_getElem? (i := 49) rfl)) (j := 25) rfl rfl rfl (zM_P hMk66ξ (List.mem_of_getElem? (i := 0) rfl)) ((zM_G hMk66ξ (List.mem_of_getElem? (i := 0) rfl) 7).trans (zM_F hMk66ξ (List.mem_of_getElem? (i := 5) rfl))) ?_
          refine zp_load (pc := 89) hx hb (zd_X12_remember (89, .aload_n 0, 1, 0, []) (List.mem_of_getElem? (i := 50) rfl)) rfl (j := 1) rfl ?_
          refine zp_getf (n := 15) (pc := 90) hx hb hEξ hwξ (zd_X12_remember (90, .getfield 167, 3, 0, []) (List.mem_of_getElem? (i := 51) rfl)) (j := 26) rfl rfl rfl (zM_P hMk66ξ (List.mem_of_getElem? (i := 0) rfl)) (((zM_G hMk66ξ (List.mem_of_getElem? (i := 0) rfl) 8).trans (hVk66ξ 0 8 (Or.inr (by decide)))).trans ((zc_cp_f (by decide)).trans zp_set_self)) ?_
          refine zp_load (pc := 93) hx hb (zd_X12_remember (93, .iload_n 1, 1, 0, []) (List.mem_of_getElem? (i := 52) rfl)) rfl (j := 2) rfl ?_
          refine zp_iast (j := 15) (pc := 94) hx hb hwξ heffξ (zd_X12_remember (94, .iastore, 1, 0, []) (List.mem_of_getElem? (i := 53) rfl)) (show zp_ia 1 63 = some (16, 0, 0, 0, 3) from rfl) (zM_P hMk66ξ (List.mem_of_getElem? (i := 6) rfl)) (by omega) (by omega) (zp_o0 (by omega) (by omega) (by omega) (by omega)) rfl ?_
          refine zp_load (pc := 95) hx hb (zd_X12_remember (95, .aload_n 0, 1, 0, []) (List.mem_of_getElem? (i := 54) rfl)) rfl (j := 1) rfl ?_
          refine zp_dup (pc := 96) hx hb (zd_X12_remember (96, .dup, 1, 0, []) (List.mem_of_getElem? (i := 55) rfl)) (show (2 : Nat) ≠ 1 by decide) ?_
          refine zp_getf (n := 15) (pc := 97) hx hb hEξ hwξ (zd_X12_remember (97, .getfield 167, 3, 0, []) (List.mem_of_getElem? (i := 56) rfl)) (j := 26) rfl rfl rfl (zM_P hMk66ξ (List.mem_of_getElem? (i := 0) rfl)) ((zp_set_ne (Or.inl (zM_ne hMk66ξ (List.mem_of_getElem? (i := 0) rfl) (List.mem_of_getElem? (i := 6) rfl) (by decide)))).trans ((((zM_G hMk66ξ (List.mem_of_getElem? (i := 0) rfl) 8).trans (hVk66ξ 0 8 (Or.inr (by decide)))).trans ((zc_cp_f (by decide)).trans zp_set_self)))) ?_
          refine zp_const (pc := 100) hx hb (zd_X12_remember (100, .iconst 1, 1, 0, []) (List.mem_of_getElem? (i := 57) rfl)) rfl rfl ?_
          refine zp_add (n := 16) (pc := 101) hx hb (zd_X12_remember (101, .iadd, 1, 0, []) (List.mem_of_getElem? (i := 58) rfl)) (by omega) (zp_r0 (by omega) (by omega)) ?_
          refine zp_putf (pc := 102) hx hb hEξ hwξ heffξ (zd_X12_remember (102, .putfield 167, 3, 0, []) (List.mem_of_getElem? (i := 59) rfl)) (j := 26) rfl rfl rfl (zM_P hMk66ξ (List.mem_of_getElem? (i := 0) rfl)) (zp_o0 (by decide) (by decide) (by decide) (by decide)) ?_
          refine zp_vret (pc := 105) hx hb hEξ hQξ hU5ξ rfl (by decide) (zd_X12_remember (105, .return_, 1, 0, []) (List.mem_of_getElem? (i := 60) rfl)) (j := 0) rfl ?_
          rw [hpsξ]
          refine ⟨rfl, ?_⟩
          show zMVr A (zT_rem V p1ξ 16) u.1 _
          unfold zT_rem
          rw [if_pos rfl]
          exact ⟨(zp_set (zp_set Mk66 7 (2000 + 15) p1ξ) 0 8 16), (zM_set (zM_setE hMk66ξ (List.mem_of_getElem? (i := 6) rfl)) (List.mem_of_getElem? (i := 0) rfl) (by decide)), (zV_set (zV_set hVk66ξ)), (zSb_set (by decide) (zSb_set (by decide) hSbk66ξ))⟩
        · exfalso
          omega
      | succ r9ξ ih =>
        intro i9ξ G hrξ hMV9ξ
        obtain ⟨M9ξ, hM9ξ, hV9ξ, hSb9ξ⟩ := hMV9ξ
        refine zp_load (pc := 41) hx hb (zd_X12_remember (41, .iload_n 2, 1, 0, []) (List.mem_of_getElem? (i := 23) rfl)) rfl (j := 0) rfl ?_
        refine zp_const (pc := 42) hx hb (zd_X12_remember (42, .bipush 15, 2, 0, []) (List.mem_of_getElem? (i := 24) rfl)) rfl rfl ?_
        refine zp_icmp (pc := 44) (tgt := 67) hx hb (zd_X12_remember (44, .if_icmp .ge 23, 3, 0, []) (List.mem_of_getElem? (i := 25) rfl)) rfl (fun (hc67ξ : 15 ≤ (i9ξ : Int)) => ?_) (fun (hc67ξ : ¬ (15 ≤ (i9ξ : Int))) => ?_)
        · exfalso
          omega
        · refine zp_load (pc := 47) hx hb (zd_X12_remember (47, .aload_n 0, 1, 0, []) (List.mem_of_getElem? (i := 26) rfl)) rfl (j := 1) rfl ?_
          refine zp_getf (n := (A 7 : Int)) (pc := 48) hx hb hEξ hwξ (zd_X12_remember (48, .getfield 26, 3, 0, []) (List.mem_of_getElem? (i := 27) rfl)) (j := 25) rfl rfl rfl (zM_P hM9ξ (List.mem_of_getElem? (i := 0) rfl)) ((zM_G hM9ξ (List.mem_of_getElem? (i := 0) rfl) 7).trans (zM_F hM9ξ (List.mem_of_getElem? (i := 5) rfl))) ?_
          refine zp_load (pc := 51) hx hb (zd_X12_remember (51, .iload_n 2, 1, 0, []) (List.mem_of_getElem? (i := 28) rfl)) rfl (j := 0) rfl ?_
          refine zp_load (pc := 52) hx hb (zd_X12_remember (52, .aload_n 0, 1, 0, []) (List.mem_of_getElem? (i := 29) rfl)) rfl (j := 1) rfl ?_
          refine zp_getf (n := (A 7 : Int)) (pc := 53) hx hb hEξ hwξ (zd_X12_remember (53, .getfield 26, 3, 0, []) (List.mem_of_getElem? (i := 30) rfl)) (j := 25) rfl rfl rfl (zM_P hM9ξ (List.mem_of_getElem? (i := 0) rfl)) ((zM_G hM9ξ (List.mem_of_getElem? (i := 0) rfl) 7).trans (zM_F hM9ξ (List.mem_of_getElem? (i := 5) rfl))) ?_
          refine zp_load (pc := 56) hx hb (zd_X12_remember (56, .iload_n 2, 1, 0, []) (List.mem_of_getElem? (i := 31) rfl)) rfl (j := 0) rfl ?_
          refine zp_const (pc := 57) hx hb (zd_X12_remember (57, .iconst 1, 1, 0, []) (List.mem_of_getElem? (i := 32) rfl)) rfl rfl ?_
          refine zp_add (n := ((i9ξ : Int) + 1)) (pc := 58) hx hb (zd_X12_remember (58, .iadd, 1, 0, []) (List.mem_of_getElem? (i := 33) rfl)) (by omega) (zp_r0 (by omega) (by omega)) ?_
          refine zp_iald (j := (i9ξ + 1)) (v := ((zc_cp V 6 34 6 0 510) 7 (2000 + (i9ξ + 1)))) (pc := 59) hx hb hwξ (zd_X12_remember (59, .iaload, 1, 0, []) (List.mem_of_getElem? (i := 34) rfl)) (show zp_ia 1 63 = some (16, 0, 0, 0, 3) from rfl) (zM_P hM9ξ (List.mem_of_getElem? (i := 6) rfl)) (by omega) (by omega) (((zM_G hM9ξ (List.mem_of_getElem? (i := 6) rfl) (2000 + (i9ξ + 1))).trans (hV9ξ 7 (2000 + (i9ξ + 1)) (Or.inl (by decide)))).trans (zc_cp_n (by omega))) (fun hk68ξ => ?_)
          have hk68bξ := zp_int hk68ξ
          clear hk68ξ
          refine zp_iast (j := i9ξ) (pc := 60) hx hb hwξ heffξ (zd_X12_remember (60, .iastore, 1, 0, []) (List.mem_of_getElem? (i := 35) rfl)) (show zp_ia 1 63 = some (16, 0, 0, 0, 3) from rfl) (zM_P hM9ξ (List.mem_of_getElem? (i := 6) rfl)) (by omega) (by omega) (zp_o0 (by omega) (by omega) (by omega) (by omega)) rfl ?_
          refine zp_iinc (L' := [(2, 0, ((i9ξ : Int) + 1)), (0, 2, (A 0 : Int)), (1, 0, p1ξ)]) (n := ((i9ξ : Int) + 1)) (pc := 61) hx hb hnLξ (zd_X12_remember (61, .iinc 2 1, 3, 0, []) (List.mem_of_getElem? (i := 36) rfl)) (j := 0) rfl (by omega) (zp_r0 (by omega) (by omega)) rfl rfl ?_
          refine zp_goto (tgt := 41) (pc := 64) hx hb (zd_X12_remember (64, .goto (-23), 3, 0, []) (List.mem_of_getElem? (i := 37) rfl)) rfl ?_
          refine zp_drop (L' := [(2, 0, ((i9ξ : Int) + 1)), (0, 2, (A 0 : Int)), (1, 0, p1ξ)]) (by simp) ?_
          refine ih (i9ξ + 1) _ (by omega) (zMV_cg ⟨(zp_set M9ξ 7 (2000 + i9ξ) ((zc_cp V 6 34 6 0 510) 7 (2000 + (i9ξ + 1)))), (zM_setE hM9ξ (List.mem_of_getElem? (i := 6) rfl)), (zV_set hV9ξ), (zSb_set (by decide) hSb9ξ)⟩ ?_)
          rw [show (2000 + i9ξ : Nat) = 2000 + (0 + i9ξ) by omega, show ((zc_cp V 6 34 6 0 510) 7 (2000 + (i9ξ + 1))) = (zc_cp V 6 34 6 0 510) 7 (2000 + (1 + i9ξ)) from congrArg (fun z => (zc_cp V 6 34 6 0 510) 7 (2000 + z)) (by omega)]
          exact zc_cp_s
    have loop1 : ∀ (r9ξ i9ξ : Nat) (G : Nat → Nat → Int), r9ξ + i9ξ = 510 → zMVr A (zc_cp V 6 34 6 0 i9ξ) u.1 G → zp_J p l e R s m args below meth c Q w u [] 11 [(2, 0, (i9ξ : Int)), (0, 2, (A 0 : Int)), (1, 0, p1ξ)] [] u.1 G := by
      intro r9ξ
      induction r9ξ with
      | zero =>
        intro i9ξ G hrξ hMV9ξ
        obtain rfl : i9ξ = 510 := by omega
        obtain ⟨M9ξ, hM9ξ, hV9ξ, hSb9ξ⟩ := hMV9ξ
        show zp_J p l e R s m args below meth c Q w u [] 11 [(2, 0, 510), (0, 2, (A 0 : Int)), (1, 0, p1ξ)] [] u.1 G
        refine zp_load (pc := 11) hx hb (zd_X12_remember (11, .iload_n 2, 1, 0, []) (List.mem_of_getElem? (i := 6) rfl)) rfl (j := 0) rfl ?_
        refine zp_const (pc := 12) hx hb (zd_X12_remember (12, .sipush 510, 3, 0, []) (List.mem_of_getElem? (i := 7) rfl)) rfl rfl ?_
        refine zp_icmp (pc := 15) (tgt := 39) hx hb (zd_X12_remember (15, .if_icmp .ge 24, 3, 0, []) (List.mem_of_getElem? (i := 8) rfl)) rfl (fun (hc69ξ : 510 ≤ (510 : Int)) => ?_) (fun (hc69ξ : ¬ (510 ≤ (510 : Int))) => ?_)
        · refine zp_const (pc := 39) hx hb (zd_X12_remember (39, .iconst 0, 1, 0, []) (List.mem_of_getElem? (i := 21) rfl)) rfl rfl ?_
          refine zp_store (L' := [(2, 0, 0), (0, 2, (A 0 : Int)), (1, 0, p1ξ)]) (pc := 40) hx hb hnLξ (zd_X12_remember (40, .istore_n 2, 1, 0, []) (List.mem_of_getElem? (i := 22) rfl)) rfl rfl rfl ?_
          exact loop2 15 0 G (by omega) (zMV_cg ⟨M9ξ, hM9ξ, hV9ξ, hSb9ξ⟩ zc_cp_0.symm)
        · exfalso
          omega
      | succ r9ξ ih =>
        intro i9ξ G hrξ hMV9ξ
        obtain ⟨M9ξ, hM9ξ, hV9ξ, hSb9ξ⟩ := hMV9ξ
        refine zp_load (pc := 11) hx hb (zd_X12_remember (11, .iload_n 2, 1, 0, []) (List.mem_of_getElem? (i := 6) rfl)) rfl (j := 0) rfl ?_
        refine zp_const (pc := 12) hx hb (zd_X12_remember (12, .sipush 510, 3, 0, []) (List.mem_of_getElem? (i := 7) rfl)) rfl rfl ?_
        refine zp_icmp (pc := 15) (tgt := 39) hx hb (zd_X12_remember (15, .if_icmp .ge 24, 3, 0, []) (List.mem_of_getElem? (i := 8) rfl)) rfl (fun (hc70ξ : 510 ≤ (i9ξ : Int)) => ?_) (fun (hc70ξ : ¬ (510 ≤ (i9ξ : Int))) => ?_)
        · exfalso
          omega
        · refine zp_load (pc := 18) hx hb (zd_X12_remember (18, .aload_n 0, 1, 0, []) (List.mem_of_getElem? (i := 9) rfl)) rfl (j := 1) rfl ?_
          refine zp_getf (n := (A 6 : Int)) (pc := 19) hx hb hEξ hwξ (zd_X12_remember (19, .getfield 23, 3, 0, []) (List.mem_of_getElem? (i := 10) rfl)) (j := 24) rfl rfl rfl (zM_P hM9ξ (List.mem_of_getElem? (i := 0) rfl)) ((zM_G hM9ξ (List.mem_of_getElem? (i := 0) rfl) 6).trans (zM_F hM9ξ (List.mem_of_getElem? (i := 4) rfl))) ?_
          refine zp_load (pc := 22) hx hb (zd_X12_remember (22, .iload_n 2, 1, 0, []) (List.mem_of_getElem? (i := 11) rfl)) rfl (j := 0) rfl ?_
          refine zp_load (pc := 23) hx hb (zd_X12_remember (23, .aload_n 0, 1, 0, []) (List.mem_of_getElem? (i := 12) rfl)) rfl (j := 1) rfl ?_
          refine zp_getf (n := (A 6 : Int)) (pc := 24) hx hb hEξ hwξ (zd_X12_remember (24, .getfield 23, 3, 0, []) (List.mem_of_getElem? (i := 13) rfl)) (j := 24) rfl rfl rfl (zM_P hM9ξ (List.mem_of_getElem? (i := 0) rfl)) ((zM_G hM9ξ (List.mem_of_getElem? (i := 0) rfl) 6).trans (zM_F hM9ξ (List.mem_of_getElem? (i := 4) rfl))) ?_
          refine zp_load (pc := 27) hx hb (zd_X12_remember (27, .iload_n 2, 1, 0, []) (List.mem_of_getElem? (i := 14) rfl)) rfl (j := 0) rfl ?_
          refine zp_const (pc := 28) hx hb (zd_X12_remember (28, .bipush 34, 2, 0, []) (List.mem_of_getElem? (i := 15) rfl)) rfl rfl ?_
          refine zp_add (n := ((i9ξ : Int) + 34)) (pc := 30) hx hb (zd_X12_remember (30, .iadd, 1, 0, []) (List.mem_of_getElem? (i := 16) rfl)) (by omega) (zp_r0 (by omega) (by omega)) ?_
          refine zp_ialdT (j := (i9ξ + 34)) (v := (V 6 (2000 + (i9ξ + 34)))) (T := zt_types.getD 62 (0, 0, 0, [])) (pc := 31) hx hb hwξ (zd_X12_remember (31, .iaload, 1, 0, []) (List.mem_of_getElem? (i := 17) rfl)) rfl rfl (zl_k0_62 (i9ξ + 34)) (zM_P hM9ξ (List.mem_of_getElem? (i := 5) rfl)) (by omega) (show (i9ξ + 34) < 612 by omega) (((zM_G hM9ξ (List.mem_of_getElem? (i := 5) rfl) (2000 + (i9ξ + 34))).trans (hV9ξ 6 (2000 + (i9ξ + 34)) (Or.inl (by decide)))).trans (zc_cp_n (by omega))) (fun hk71ξ => ?_)
          refine zp_iastT (j := i9ξ) (T := zt_types.getD 62 (0, 0, 0, [])) (pc := 32) hx hb hwξ heffξ (zd_X12_remember (32, .iastore, 1, 0, []) (List.mem_of_getElem? (i := 18) rfl)) rfl rfl (zl_k0_62 i9ξ) (zM_P hM9ξ (List.mem_of_getElem? (i := 5) rfl)) (by omega) (show i9ξ < 612 by omega) (by omega) (zl_cpo (zl_k0_62 _) (zl_k0_62 _) (zl_62_62 (by omega)) hk71ξ) (Or.inr ⟨by decide, by decide⟩) rfl ?_
          refine zp_iinc (L' := [(2, 0, ((i9ξ : Int) + 1)), (0, 2, (A 0 : Int)), (1, 0, p1ξ)]) (n := ((i9ξ : Int) + 1)) (pc := 33) hx hb hnLξ (zd_X12_remember (33, .iinc 2 1, 3, 0, []) (List.mem_of_getElem? (i := 19) rfl)) (j := 0) rfl (by omega) (zp_r0 (by omega) (by omega)) rfl rfl ?_
          refine zp_goto (tgt := 11) (pc := 36) hx hb (zd_X12_remember (36, .goto (-25), 3, 0, []) (List.mem_of_getElem? (i := 20) rfl)) rfl ?_
          refine zp_drop (L' := [(2, 0, ((i9ξ : Int) + 1)), (0, 2, (A 0 : Int)), (1, 0, p1ξ)]) (by simp) ?_
          refine ih (i9ξ + 1) _ (by omega) (zMV_cg ⟨(zp_set M9ξ 6 (2000 + i9ξ) (V 6 (2000 + (i9ξ + 34)))), (zM_setE hM9ξ (List.mem_of_getElem? (i := 5) rfl)), (zV_set hV9ξ), (zSb_set (by decide) hSb9ξ)⟩ ?_)
          rw [show (2000 + i9ξ : Nat) = 2000 + (0 + i9ξ) by omega, show (V 6 (2000 + (i9ξ + 34))) = V 6 (2000 + (34 + i9ξ)) from congrArg (fun z => V 6 (2000 + z)) (by omega)]
          exact zc_cp_s
    refine zp_load (pc := 0) hx hb (zd_X12_remember (0, .aload_n 0, 1, 0, []) (List.mem_of_getElem? (i := 0) rfl)) rfl (j := 0) rfl ?_
    refine zp_getf (n := 16) (pc := 1) hx hb hEξ hwξ (zd_X12_remember (1, .getfield 167, 3, 0, []) (List.mem_of_getElem? (i := 1) rfl)) (j := 26) rfl rfl rfl (zM_P hMξ (List.mem_of_getElem? (i := 0) rfl)) (((zM_G hMξ (List.mem_of_getElem? (i := 0) rfl) 8).trans (hVξ 0 8 (Or.inr (by decide)))).trans h8ξ) ?_
    refine zp_const (pc := 4) hx hb (zd_X12_remember (4, .bipush 16, 2, 0, []) (List.mem_of_getElem? (i := 2) rfl)) rfl rfl ?_
    refine zp_icmp (pc := 6) (tgt := 77) hx hb (zd_X12_remember (6, .if_icmp .ne 71, 3, 0, []) (List.mem_of_getElem? (i := 3) rfl)) rfl (fun (hc72ξ : ¬ (16 : Int) = 16) => ?_) (fun (hc72ξ : ¬ (¬ (16 : Int) = 16)) => ?_)
    · exfalso
      omega
    · refine zp_const (pc := 9) hx hb (zd_X12_remember (9, .iconst 0, 1, 0, []) (List.mem_of_getElem? (i := 4) rfl)) rfl rfl ?_
      refine zp_store (L' := [(2, 0, 0), (0, 2, (A 0 : Int)), (1, 0, p1ξ)]) (pc := 10) hx hb hnLξ (zd_X12_remember (10, .istore_n 2, 1, 0, []) (List.mem_of_getElem? (i := 5) rfl)) rfl rfl rfl ?_
      exact loop1 510 0 (zp_n u.2.1) (by omega) (zMV_cg ⟨M, hMξ, hVξ, hSbξ⟩ zc_cp_0.symm)
  · refine zp_load (pc := 0) hx hb (zd_X12_remember (0, .aload_n 0, 1, 0, []) (List.mem_of_getElem? (i := 0) rfl)) rfl (j := 0) rfl ?_
    refine zp_getf (n := (n1ξ : Int)) (pc := 1) hx hb hEξ hwξ (zd_X12_remember (1, .getfield 167, 3, 0, []) (List.mem_of_getElem? (i := 1) rfl)) (j := 26) rfl rfl rfl (zM_P hMξ (List.mem_of_getElem? (i := 0) rfl)) (((zM_G hMξ (List.mem_of_getElem? (i := 0) rfl) 8).trans (hVξ 0 8 (Or.inr (by decide)))).trans h8ξ) ?_
    refine zp_const (pc := 4) hx hb (zd_X12_remember (4, .bipush 16, 2, 0, []) (List.mem_of_getElem? (i := 2) rfl)) rfl rfl ?_
    refine zp_icmp (pc := 6) (tgt := 77) hx hb (zd_X12_remember (6, .if_icmp .ne 71, 3, 0, []) (List.mem_of_getElem? (i := 3) rfl)) rfl (fun (hc73ξ : ¬ (n1ξ : Int) = 16) => ?_) (fun (hc73ξ : ¬ (¬ (n1ξ : Int) = 16)) => ?_)
    · refine zp_load (pc := 77) hx hb (zd_X12_remember (77, .aload_n 0, 1, 0, []) (List.mem_of_getElem? (i := 44) rfl)) rfl (j := 0) rfl ?_
      refine zp_load (pc := 78) hx hb (zd_X12_remember (78, .aload_n 0, 1, 0, []) (List.mem_of_getElem? (i := 45) rfl)) rfl (j := 0) rfl ?_
      refine zp_getf (n := (n1ξ : Int)) (pc := 79) hx hb hEξ hwξ (zd_X12_remember (79, .getfield 167, 3, 0, []) (List.mem_of_getElem? (i := 46) rfl)) (j := 26) rfl rfl rfl (zM_P hMξ (List.mem_of_getElem? (i := 0) rfl)) (((zM_G hMξ (List.mem_of_getElem? (i := 0) rfl) 8).trans (hVξ 0 8 (Or.inr (by decide)))).trans h8ξ) ?_
      refine zp_call (pc := 82) (how := 0) (idx := 174) (mi := 264) (S := []) hx hb hEξ hwξ heffξ hrmξ (zX_kal hWξ A V n1ξ) rfl (j := 57) rfl rfl (by decide +kernel) (zd_X12_remember (82, .invokevirtual 174, 3, 0, []) (List.mem_of_getElem? (i := 47) rfl)) [(A 0 : Int), (n1ξ : Int)] rfl ⟨zp_o2 (zM_P hMξ (List.mem_of_getElem? (i := 0) rfl)), zp_o0 (by omega) (by omega) (by omega) (by omega), trivial⟩ (Nat.le_of_ble_eq_true rfl) ⟨⟨M, hMξ, hVξ, hSbξ⟩, rfl, rfl⟩ (fun al halξ rnk74ξ Pk74 Gk74 hextk74ξ hfrk74ξ hokk74ξ hcsk74ξ hpsik74ξ => ?_)
      obtain rfl := List.mem_singleton.mp halξ
      obtain ⟨hPek74ξ, Mk74, hMk74ξ, hVk74ξ, hSbk74ξ⟩ := hpsik74ξ
      subst hPek74ξ
      clear hextk74ξ hfrk74ξ hcsk74ξ hokk74ξ
      have hVk74ξ : ∀ o k, zNs o k → Mk74 o k = (zc_cp V 3 5 6 (34 * n1ξ) 34) o k := hVk74ξ
      refine zp_load (pc := 85) hx hb (zd_X12_remember (85, .aload_n 0, 1, 0, []) (List.mem_of_getElem? (i := 48) rfl)) rfl (j := 0) rfl ?_
      refine zp_getf (n := (A 7 : Int)) (pc := 86) hx hb hEξ hwξ (zd_X12_remember (86, .getfield 26, 3, 0, []) (List.mem_of_getElem? (i := 49) rfl)) (j := 25) rfl rfl rfl (zM_P hMk74ξ (List.mem_of_getElem? (i := 0) rfl)) ((zM_G hMk74ξ (List.mem_of_getElem? (i := 0) rfl) 7).trans (zM_F hMk74ξ (List.mem_of_getElem? (i := 5) rfl))) ?_
      refine zp_load (pc := 89) hx hb (zd_X12_remember (89, .aload_n 0, 1, 0, []) (List.mem_of_getElem? (i := 50) rfl)) rfl (j := 0) rfl ?_
      refine zp_getf (n := (n1ξ : Int)) (pc := 90) hx hb hEξ hwξ (zd_X12_remember (90, .getfield 167, 3, 0, []) (List.mem_of_getElem? (i := 51) rfl)) (j := 26) rfl rfl rfl (zM_P hMk74ξ (List.mem_of_getElem? (i := 0) rfl)) (((zM_G hMk74ξ (List.mem_of_getElem? (i := 0) rfl) 8).trans (hVk74ξ 0 8 (Or.inr (by decide)))).trans ((zc_cp_f (by decide)).trans h8ξ)) ?_
      refine zp_load (pc := 93) hx hb (zd_X12_remember (93, .iload_n 1, 1, 0, []) (List.mem_of_getElem? (i := 52) rfl)) rfl (j := 1) rfl ?_
      refine zp_iast (j := n1ξ) (pc := 94) hx hb hwξ heffξ (zd_X12_remember (94, .iastore, 1, 0, []) (List.mem_of_getElem? (i := 53) rfl)) (show zp_ia 1 63 = some (16, 0, 0, 0, 3) from rfl) (zM_P hMk74ξ (List.mem_of_getElem? (i := 6) rfl)) (by omega) (by omega) (zp_o0 (by omega) (by omega) (by omega) (by omega)) rfl ?_
      refine zp_load (pc := 95) hx hb (zd_X12_remember (95, .aload_n 0, 1, 0, []) (List.mem_of_getElem? (i := 54) rfl)) rfl (j := 0) rfl ?_
      refine zp_dup (pc := 96) hx hb (zd_X12_remember (96, .dup, 1, 0, []) (List.mem_of_getElem? (i := 55) rfl)) (show (2 : Nat) ≠ 1 by decide) ?_
      refine zp_getf (n := (n1ξ : Int)) (pc := 97) hx hb hEξ hwξ (zd_X12_remember (97, .getfield 167, 3, 0, []) (List.mem_of_getElem? (i := 56) rfl)) (j := 26) rfl rfl rfl (zM_P hMk74ξ (List.mem_of_getElem? (i := 0) rfl)) ((zp_set_ne (Or.inl (zM_ne hMk74ξ (List.mem_of_getElem? (i := 0) rfl) (List.mem_of_getElem? (i := 6) rfl) (by decide)))).trans ((((zM_G hMk74ξ (List.mem_of_getElem? (i := 0) rfl) 8).trans (hVk74ξ 0 8 (Or.inr (by decide)))).trans ((zc_cp_f (by decide)).trans h8ξ)))) ?_
      refine zp_const (pc := 100) hx hb (zd_X12_remember (100, .iconst 1, 1, 0, []) (List.mem_of_getElem? (i := 57) rfl)) rfl rfl ?_
      refine zp_add (n := ((n1ξ : Int) + 1)) (pc := 101) hx hb (zd_X12_remember (101, .iadd, 1, 0, []) (List.mem_of_getElem? (i := 58) rfl)) (by omega) (zp_r0 (by omega) (by omega)) ?_
      refine zp_putf (pc := 102) hx hb hEξ hwξ heffξ (zd_X12_remember (102, .putfield 167, 3, 0, []) (List.mem_of_getElem? (i := 59) rfl)) (j := 26) rfl rfl rfl (zM_P hMk74ξ (List.mem_of_getElem? (i := 0) rfl)) (zp_o0 (by omega) (by omega) (by omega) (by omega)) ?_
      refine zp_vret (pc := 105) hx hb hEξ hQξ hU5ξ rfl (by decide) (zd_X12_remember (105, .return_, 1, 0, []) (List.mem_of_getElem? (i := 60) rfl)) (j := 0) rfl ?_
      rw [hpsξ]
      refine ⟨rfl, ?_⟩
      show zMVr A (zT_rem V p1ξ n1ξ) u.1 _
      unfold zT_rem
      rw [if_neg hnξ]
      exact ⟨(zp_set (zp_set Mk74 7 (2000 + n1ξ) p1ξ) 0 8 ((n1ξ : Int) + 1)), (zM_set (zM_setE hMk74ξ (List.mem_of_getElem? (i := 6) rfl)) (List.mem_of_getElem? (i := 0) rfl) (by decide)), (zV_set (zV_set hVk74ξ)), (zSb_set (by decide) (zSb_set (by decide) hSbk74ξ))⟩
    · exfalso
      omega
noncomputable def zK_und : zk_K := (zt_mn 182, prog_14_method_13_code, 1, (Option.some Jvm.ClassFile.FieldType.int), 1, 12, [(2, 13, 0, 0)], [(some (0, 0, (-2147483648), 2147483647), [])], zUE, (2, 120, 0, 0))
noncomputable def zφ_und (A : Nat → Nat) (V : Nat → Nat → Int) (n1ξ : Nat) : (Nat → Option Nat) → (Nat → Nat → Int) → List Int → Prop := fun P G ps => zMVr A V P G ∧ ps.getD 0 0 = (A 0 : Int) ∧ V 0 8 = (n1ξ : Int) ∧ n1ξ ≤ 16
noncomputable def zψ_und (A : Nat → Nat) (V : Nat → Nat → Int) (n1ξ : Nat) : (Nat → Option Nat) → (Nat → Nat → Int) → List Int → (Nat → Option Nat) → (Nat → Nat → Int) → Int → Prop := fun P G ps P' G' rn => P' = P ∧ zMVr A (zT_undo V n1ξ) P' G' ∧ rn = (if n1ξ = 0 then -3 else V 7 (2000 + (n1ξ - 1)))
theorem zX_und {l : Launch} {w : zk_W} (hWξ : zh_W w) (A : Nat → Nat) (V : Nat → Nat → Int) (n1ξ : Nat) : zk_metX l w zt_dv zt_TB zK_und (zp_A (zφ_und A V n1ξ)) (zp_B (zψ_und A V n1ξ)) ∧ zk_cok w zt_TB zK_und := by
  refine zp_methX (cn := "WoundTownModel") zp_lkall hWξ (pl := 1557) rfl (by decide +kernel) (fun p e R s m args below meth c Q u hx hb hEξ hQξ hU5ξ heffξ hnLξ hokξ hφ => ?_)
  have hwξ := hWξ.1
  obtain ⟨p0ξ, hpsξ, tk0⟩ := zp_ps1 hokξ
  have hrmξ : zk_Kr (zk_ev (zt_types, zp_lk, zt_dv, [], [], zp_lc, zK_und)) = zk_Kr zK_und := rfl
  rw [hpsξ] at hφ ⊢
  have hφ : zMVr A V u.1 (zp_n u.2.1) ∧ p0ξ = (A 0 : Int) ∧ V 0 8 = (n1ξ : Int) ∧ n1ξ ≤ 16 := hφ
  obtain ⟨⟨M, hMξ, hVξ, hSbξ⟩, rfl, h8ξ, hn16ξ⟩ := hφ
  show zp_J p l e R s m args below meth c Q w u [] 0 [(0, 2, (A 0 : Int))] [] u.1 (zp_n u.2.1)
  by_cases hnξ : n1ξ = 0
  · subst hnξ
    refine zp_load (pc := 0) hx hb (zd_X12_undo (0, .aload_n 0, 1, 0, []) (List.mem_of_getElem? (i := 0) rfl)) rfl (j := 0) rfl ?_
    refine zp_const (pc := 1) hx hb (zd_X12_undo (1, .iconst 0, 1, 0, []) (List.mem_of_getElem? (i := 1) rfl)) rfl rfl ?_
    refine zp_putf (pc := 2) hx hb hEξ hwξ heffξ (zd_X12_undo (2, .putfield 161, 3, 0, []) (List.mem_of_getElem? (i := 2) rfl)) (j := 18) rfl rfl rfl (zM_P hMξ (List.mem_of_getElem? (i := 0) rfl)) (zp_o0 (by decide) (by decide) (by decide) (by decide)) ?_
    refine zp_load (pc := 5) hx hb (zd_X12_undo (5, .aload_n 0, 1, 0, []) (List.mem_of_getElem? (i := 3) rfl)) rfl (j := 0) rfl ?_
    refine zp_getf (n := 0) (pc := 6) hx hb hEξ hwξ (zd_X12_undo (6, .getfield 167, 3, 0, []) (List.mem_of_getElem? (i := 4) rfl)) (j := 26) rfl rfl rfl (zM_P hMξ (List.mem_of_getElem? (i := 0) rfl)) ((zp_set_ne (Or.inr (by decide))).trans ((((zM_G hMξ (List.mem_of_getElem? (i := 0) rfl) 8).trans (hVξ 0 8 (Or.inr (by decide)))).trans h8ξ))) ?_
    refine zp_if (pc := 9) (tgt := 19) hx hb (zd_X12_undo (9, .ifCond .ne 10, 3, 0, []) (List.mem_of_getElem? (i := 5) rfl)) rfl (fun (hc75ξ : ¬ (0 : Int) = 0) => ?_) (fun (hc75ξ : ¬ (¬ (0 : Int) = 0)) => ?_)
    · exfalso
      omega
    · refine zp_load (pc := 12) hx hb (zd_X12_undo (12, .aload_n 0, 1, 0, []) (List.mem_of_getElem? (i := 6) rfl)) rfl (j := 0) rfl ?_
      refine zp_const (pc := 13) hx hb (zd_X12_undo (13, .bipush (-3), 2, 0, []) (List.mem_of_getElem? (i := 7) rfl)) rfl rfl ?_
      refine zp_call (pc := 15) (how := 0) (idx := 170) (mi := 183) (S := []) hx hb hEξ hwξ heffξ hrmξ (zX_tll hWξ A (zp_set V 0 0 0)) rfl (j := 0) rfl rfl (by decide +kernel) (zd_X12_undo (15, .invokevirtual 170, 3, 0, []) (List.mem_of_getElem? (i := 8) rfl)) [(A 0 : Int), (-3)] rfl ⟨zp_o2 (zM_P hMξ (List.mem_of_getElem? (i := 0) rfl)), zp_o0 (by omega) (by omega) (by omega) (by omega), trivial⟩ (Nat.le_of_ble_eq_true rfl) ⟨⟨(zp_set M 0 0 0), (zM_set hMξ (List.mem_of_getElem? (i := 0) rfl) (by decide)), (zV_set hVξ), (zSb_set (by decide) hSbξ)⟩, rfl, (show -6 ≤ (-3) by omega)⟩ (fun al halξ rnt76ξ Pt76 Gt76 hextt76ξ hfrt76ξ hokt76ξ hcst76ξ hpsit76ξ => ?_)
      obtain rfl := List.mem_singleton.mp halξ
      have hrt76ξ := zp_int (hokt76ξ _ rfl).1
      obtain ⟨hPet76ξ, ⟨Mt76, hMt76ξ, hVt76ξ, hSbt76ξ⟩, htt76ξ⟩ := hpsit76ξ
      subst hPet76ξ
      clear hextt76ξ hfrt76ξ hcst76ξ hokt76ξ
      have hVt76ξ : ∀ o k, zNs o k → Mt76 o k = (zT_tell (zp_set V 0 0 0) (-3)) o k := hVt76ξ
      have htt76ξ : rnt76ξ = (-3) := htt76ξ
      have htt76ξ := (Eq.symm htt76ξ)
      subst htt76ξ
      refine zp_iret (pc := 18) (n := (-3)) hx hb hEξ hQξ hU5ξ rfl (by decide) (zd_X12_undo (18, .ireturn, 1, 0, []) (List.mem_of_getElem? (i := 9) rfl)) (j := 0) rfl (zp_o0 (by omega) (by omega) (by omega) (by omega)) ?_
      rw [hpsξ]
      refine ⟨rfl, ?_⟩
      show zMVr A (zT_undo V 0) u.1 _ ∧ _
      unfold zT_undo
      rw [if_pos rfl]
      exact ⟨⟨Mt76, hMt76ξ, hVt76ξ, hSbt76ξ⟩, (if_pos rfl).symm⟩
  · obtain ⟨n2ξ, rfl⟩ : ∃ n2ξ, n1ξ = n2ξ + 1 := ⟨n1ξ - 1, by omega⟩
    refine zp_load (pc := 0) hx hb (zd_X12_undo (0, .aload_n 0, 1, 0, []) (List.mem_of_getElem? (i := 0) rfl)) rfl (j := 0) rfl ?_
    refine zp_const (pc := 1) hx hb (zd_X12_undo (1, .iconst 0, 1, 0, []) (List.mem_of_getElem? (i := 1) rfl)) rfl rfl ?_
    refine zp_putf (pc := 2) hx hb hEξ hwξ heffξ (zd_X12_undo (2, .putfield 161, 3, 0, []) (List.mem_of_getElem? (i := 2) rfl)) (j := 18) rfl rfl rfl (zM_P hMξ (List.mem_of_getElem? (i := 0) rfl)) (zp_o0 (by decide) (by decide) (by decide) (by decide)) ?_
    refine zp_load (pc := 5) hx hb (zd_X12_undo (5, .aload_n 0, 1, 0, []) (List.mem_of_getElem? (i := 3) rfl)) rfl (j := 0) rfl ?_
    refine zp_getf (n := ((n2ξ : Int) + 1)) (pc := 6) hx hb hEξ hwξ (zd_X12_undo (6, .getfield 167, 3, 0, []) (List.mem_of_getElem? (i := 4) rfl)) (j := 26) rfl rfl rfl (zM_P hMξ (List.mem_of_getElem? (i := 0) rfl)) ((zp_set_ne (Or.inr (by decide))).trans ((((zM_G hMξ (List.mem_of_getElem? (i := 0) rfl) 8).trans (hVξ 0 8 (Or.inr (by decide)))).trans ((Eq.trans h8ξ) (by omega))))) ?_
    refine zp_if (pc := 9) (tgt := 19) hx hb (zd_X12_undo (9, .ifCond .ne 10, 3, 0, []) (List.mem_of_getElem? (i := 5) rfl)) rfl (fun (hc77ξ : ¬ ((n2ξ : Int) + 1) = 0) => ?_) (fun (hc77ξ : ¬ (¬ ((n2ξ : Int) + 1) = 0)) => ?_)
    · refine zp_load (pc := 19) hx hb (zd_X12_undo (19, .aload_n 0, 1, 0, []) (List.mem_of_getElem? (i := 10) rfl)) rfl (j := 0) rfl ?_
      refine zp_dup (pc := 20) hx hb (zd_X12_undo (20, .dup, 1, 0, []) (List.mem_of_getElem? (i := 11) rfl)) (show (2 : Nat) ≠ 1 by decide) ?_
      refine zp_getf (n := ((n2ξ : Int) + 1)) (pc := 21) hx hb hEξ hwξ (zd_X12_undo (21, .getfield 167, 3, 0, []) (List.mem_of_getElem? (i := 12) rfl)) (j := 26) rfl rfl rfl (zM_P hMξ (List.mem_of_getElem? (i := 0) rfl)) ((zp_set_ne (Or.inr (by decide))).trans ((((zM_G hMξ (List.mem_of_getElem? (i := 0) rfl) 8).trans (hVξ 0 8 (Or.inr (by decide)))).trans ((Eq.trans h8ξ) (by omega))))) ?_
      refine zp_const (pc := 24) hx hb (zd_X12_undo (24, .iconst 1, 1, 0, []) (List.mem_of_getElem? (i := 13) rfl)) rfl rfl ?_
      refine zp_sub (n := (n2ξ : Int)) (pc := 25) hx hb (zd_X12_undo (25, .isub, 1, 0, []) (List.mem_of_getElem? (i := 14) rfl)) (by omega) (zp_r0 (by omega) (by omega)) ?_
      refine zp_putf (pc := 26) hx hb hEξ hwξ heffξ (zd_X12_undo (26, .putfield 167, 3, 0, []) (List.mem_of_getElem? (i := 15) rfl)) (j := 26) rfl rfl rfl (zM_P hMξ (List.mem_of_getElem? (i := 0) rfl)) (zp_o0 (by omega) (by omega) (by omega) (by omega)) ?_
      refine zp_load (pc := 29) hx hb (zd_X12_undo (29, .aload_n 0, 1, 0, []) (List.mem_of_getElem? (i := 16) rfl)) rfl (j := 0) rfl ?_
      refine zp_load (pc := 30) hx hb (zd_X12_undo (30, .aload_n 0, 1, 0, []) (List.mem_of_getElem? (i := 17) rfl)) rfl (j := 0) rfl ?_
      refine zp_getf (n := (n2ξ : Int)) (pc := 31) hx hb hEξ hwξ (zd_X12_undo (31, .getfield 167, 3, 0, []) (List.mem_of_getElem? (i := 18) rfl)) (j := 26) rfl rfl rfl (zM_P hMξ (List.mem_of_getElem? (i := 0) rfl)) zp_set_self ?_
      refine zp_call (pc := 34) (how := 0) (idx := 178) (mi := 184) (S := []) hx hb hEξ hwξ heffξ hrmξ (zX_pub hWξ A (zp_set (zp_set V 0 0 0) 0 8 (n2ξ : Int)) n2ξ) rfl (j := 1) rfl rfl (by decide +kernel) (zd_X12_undo (34, .invokevirtual 178, 3, 0, []) (List.mem_of_getElem? (i := 19) rfl)) [(A 0 : Int), (n2ξ : Int)] rfl ⟨zp_o2 (zM_P hMξ (List.mem_of_getElem? (i := 0) rfl)), zp_o0 (by omega) (by omega) (by omega) (by omega), trivial⟩ (Nat.le_of_ble_eq_true rfl) ⟨⟨(zp_set (zp_set M 0 0 0) 0 8 (n2ξ : Int)), (zM_set (zM_set hMξ (List.mem_of_getElem? (i := 0) rfl) (by decide)) (List.mem_of_getElem? (i := 0) rfl) (by decide)), (zV_set (zV_set hVξ)), (zSb_set (by decide) (zSb_set (by decide) hSbξ))⟩, rfl, rfl⟩ (fun al halξ rnp78ξ Pp78 Gp78 hextp78ξ hfrp78ξ hokp78ξ hcsp78ξ hpsip78ξ => ?_)
      obtain rfl := List.mem_singleton.mp halξ
      obtain ⟨hPep78ξ, Mp78, hMp78ξ, hVp78ξ, hSbp78ξ⟩ := hpsip78ξ
      subst hPep78ξ
      clear hextp78ξ hfrp78ξ hcsp78ξ hokp78ξ
      have hVp78ξ : ∀ o k, zNs o k → Mp78 o k = (zc_cp (zp_set (zp_set V 0 0 0) 0 8 (n2ξ : Int)) 6 (34 * n2ξ) 3 5 34) o k := hVp78ξ
      refine zp_load (pc := 37) hx hb (zd_X12_undo (37, .aload_n 0, 1, 0, []) (List.mem_of_getElem? (i := 20) rfl)) rfl (j := 0) rfl ?_
      refine zp_load (pc := 38) hx hb (zd_X12_undo (38, .aload_n 0, 1, 0, []) (List.mem_of_getElem? (i := 21) rfl)) rfl (j := 0) rfl ?_
      refine zp_getf (n := (A 7 : Int)) (pc := 39) hx hb hEξ hwξ (zd_X12_undo (39, .getfield 26, 3, 0, []) (List.mem_of_getElem? (i := 22) rfl)) (j := 25) rfl rfl rfl (zM_P hMp78ξ (List.mem_of_getElem? (i := 0) rfl)) ((zM_G hMp78ξ (List.mem_of_getElem? (i := 0) rfl) 7).trans (zM_F hMp78ξ (List.mem_of_getElem? (i := 5) rfl))) ?_
      refine zp_load (pc := 42) hx hb (zd_X12_undo (42, .aload_n 0, 1, 0, []) (List.mem_of_getElem? (i := 23) rfl)) rfl (j := 0) rfl ?_
      refine zp_getf (n := (n2ξ : Int)) (pc := 43) hx hb hEξ hwξ (zd_X12_undo (43, .getfield 167, 3, 0, []) (List.mem_of_getElem? (i := 24) rfl)) (j := 26) rfl rfl rfl (zM_P hMp78ξ (List.mem_of_getElem? (i := 0) rfl)) (((zM_G hMp78ξ (List.mem_of_getElem? (i := 0) rfl) 8).trans (hVp78ξ 0 8 (Or.inr (by decide)))).trans ((zc_cp_f (by decide)).trans zp_set_self)) ?_
      refine zp_iald (j := n2ξ) (v := (V 7 (2000 + n2ξ))) (pc := 46) hx hb hwξ (zd_X12_undo (46, .iaload, 1, 0, []) (List.mem_of_getElem? (i := 25) rfl)) (show zp_ia 1 63 = some (16, 0, 0, 0, 3) from rfl) (zM_P hMp78ξ (List.mem_of_getElem? (i := 6) rfl)) (by omega) (by omega) (((zM_G hMp78ξ (List.mem_of_getElem? (i := 6) rfl) (2000 + n2ξ)).trans (hVp78ξ 7 (2000 + n2ξ) (Or.inl (by decide)))).trans ((zc_cp_o (by decide)).trans ((zp_set_ne (Or.inl (by decide))).trans (zp_set_ne (Or.inl (by decide)))))) (fun hk79ξ => ?_)
      have hk79bξ := zp_int hk79ξ
      clear hk79ξ
      refine zp_call (pc := 47) (how := 0) (idx := 170) (mi := 183) (S := []) hx hb hEξ hwξ heffξ hrmξ (zX_tll hWξ A (zc_cp (zp_set (zp_set V 0 0 0) 0 8 (n2ξ : Int)) 6 (34 * n2ξ) 3 5 34)) rfl (j := 0) rfl rfl (by decide +kernel) (zd_X12_undo (47, .invokevirtual 170, 3, 0, []) (List.mem_of_getElem? (i := 26) rfl)) [(A 0 : Int), (V 7 (2000 + n2ξ))] rfl ⟨zp_o2 (zM_P hMp78ξ (List.mem_of_getElem? (i := 0) rfl)), zp_o0 (by omega) (by omega) (by omega) (by omega), trivial⟩ (Nat.le_of_ble_eq_true rfl) ⟨⟨Mp78, hMp78ξ, hVp78ξ, hSbp78ξ⟩, rfl, (show -6 ≤ (V 7 (2000 + n2ξ)) by omega)⟩ (fun al halξ rnt80ξ Pt80 Gt80 hextt80ξ hfrt80ξ hokt80ξ hcst80ξ hpsit80ξ => ?_)
      obtain rfl := List.mem_singleton.mp halξ
      have hrt80ξ := zp_int (hokt80ξ _ rfl).1
      obtain ⟨hPet80ξ, ⟨Mt80, hMt80ξ, hVt80ξ, hSbt80ξ⟩, htt80ξ⟩ := hpsit80ξ
      subst hPet80ξ
      clear hextt80ξ hfrt80ξ hcst80ξ hokt80ξ
      have hVt80ξ : ∀ o k, zNs o k → Mt80 o k = (zT_tell (zc_cp (zp_set (zp_set V 0 0 0) 0 8 (n2ξ : Int)) 6 (34 * n2ξ) 3 5 34) (V 7 (2000 + n2ξ))) o k := hVt80ξ
      have htt80ξ : rnt80ξ = (V 7 (2000 + n2ξ)) := htt80ξ
      have htt80ξ := (Eq.symm htt80ξ)
      subst htt80ξ
      refine zp_iret (pc := 50) (n := (V 7 (2000 + n2ξ))) hx hb hEξ hQξ hU5ξ rfl (by decide) (zd_X12_undo (50, .ireturn, 1, 0, []) (List.mem_of_getElem? (i := 27) rfl)) (j := 0) rfl (zp_o0 (by omega) (by omega) (by omega) (by omega)) ?_
      rw [hpsξ]
      refine ⟨rfl, ?_⟩
      show zMVr A (zT_undo V (n2ξ + 1)) u.1 _ ∧ _
      unfold zT_undo
      rw [if_neg (show ¬ n2ξ + 1 = 0 by omega), show n2ξ + 1 - 1 = n2ξ by omega, show (((n2ξ + 1 : Nat) : Int) - 1) = (n2ξ : Int) by omega]
      exact ⟨⟨Mt80, hMt80ξ, hVt80ξ, hSbt80ξ⟩, (if_neg (show ¬ n2ξ + 1 = 0 by omega)).symm⟩
    · exfalso
      omega
