/-! part h3ξ: the reference over logical cells: what is kept and put back -/
noncomputable def zUE : List (Nat × Nat × Nat) := [(13, 0, 0), (13, 1, 0), (13, 8, 0), (13, 11, 0), (13, 13, 0), (13, 14, 0), (13, 15, 0), (13, 16, 0), (13, 17, 0), (13, 18, 0), (13, 19, 0), (13, 20, 0), (13, 21, 0), (13, 23, 0), (13, 26, 0), (13, 29, 0), (13, 30, 0), (13, 34, 0), (13, 38, 0), (13, 39, 0), (13, 40, 0), (13, 47, 0), (13, 49, 0), (13, 53, 0), (13, 57, 0), (13, 58, 0), (13, 59, 0), (13, 60, 0), (13, 61, 0), (13, 63, 0), (58, 1001, 0), (61, 1001, 0), (62, 1001, 0), (63, 1001, 0), (64, 1001, 0), (65, 1001, 0), (66, 1001, 0), (67, 1001, 0), (68, 1001, 0), (69, 1001, 0), (70, 1001, 0), (71, 1001, 0), (72, 1001, 0), (73, 1001, 0), (74, 1001, 0), (75, 1001, 0), (76, 1001, 0), (77, 1001, 0), (78, 1001, 0), (79, 1001, 0), (80, 1001, 0), (81, 1001, 0), (82, 1001, 0), (83, 1001, 0), (84, 1001, 0), (85, 1001, 0), (86, 1001, 0), (87, 1001, 0), (88, 1001, 0), (89, 1001, 0), (90, 1001, 0), (91, 1001, 0), (59, 1002, 0), (59, 1003, 0), (60, 1001, 0)]
theorem zp_1002 {j : Nat} (h : j < 180) : zk_pm 1002 (2000 + j) := by
  unfold zk_pm zk_er
  rw [if_neg (by decide), if_pos rfl]
  exact ⟨by omega, by omega⟩
theorem zl_cpo {P : Nat → Option Nat} {f f' : zk_F} {v : Int} (h0ξ : f.1 = 0) (h0' : f'.1 = 0) (heξ : f'.2.2 = f.2.2) (h : zk_ok P f v) : zk_ok P f' v := by
  obtain ⟨k, t, lo, hi⟩ := f
  obtain ⟨k', t', lo', hi'⟩ := f'
  dsimp only at h0ξ h0' heξ
  subst h0ξ h0'
  cases heξ
  exact ⟨h.1, h.2.1, h.2.2⟩
theorem zl_k0_62 (j : Nat) : (zk_fj (zt_types.getD 62 (0, 0, 0, [])) j).1 = 0 := by
  show (if (zk_f0 (zt_types.getD 62 (0, 0, 0, []))).1 = 9 then zk_rgn (zt_types.getD 62 (0, 0, 0, [])).2.2.2.tail (j % (zk_f0 (zt_types.getD 62 (0, 0, 0, []))).2.1) else zk_f0 (zt_types.getD 62 (0, 0, 0, []))).1 = 0
  rw [if_pos (by decide +kernel)]
  exact zk_rgn_kd (by decide +kernel) _
theorem zl_rg_62 {j i : Nat} (hi : i = j % 34) : (zk_fj (zt_types.getD 62 (0, 0, 0, [])) j).2.2 = (zk_rgn (zt_types.getD 62 (0, 0, 0, [])).2.2.2.tail i).2.2 := by
  show (if (zk_f0 (zt_types.getD 62 (0, 0, 0, []))).1 = 9 then zk_rgn (zt_types.getD 62 (0, 0, 0, [])).2.2.2.tail (j % (zk_f0 (zt_types.getD 62 (0, 0, 0, []))).2.1) else zk_f0 (zt_types.getD 62 (0, 0, 0, []))).2.2 = _
  rw [if_pos (by decide +kernel), show (zk_f0 (zt_types.getD 62 (0, 0, 0, []))).2.1 = 34 from by decide +kernel, hi]
theorem zl_k0_64 (j : Nat) : (zk_fj (zt_types.getD 64 (0, 0, 0, [])) j).1 = 0 := by
  show (if (zk_f0 (zt_types.getD 64 (0, 0, 0, []))).1 = 9 then zk_rgn (zt_types.getD 64 (0, 0, 0, [])).2.2.2.tail (j % (zk_f0 (zt_types.getD 64 (0, 0, 0, []))).2.1) else zk_f0 (zt_types.getD 64 (0, 0, 0, []))).1 = 0
  rw [if_pos (by decide +kernel)]
  exact zk_rgn_kd (by decide +kernel) _
theorem zl_rg_64 {j i : Nat} (hi : i = j % 34) : (zk_fj (zt_types.getD 64 (0, 0, 0, [])) j).2.2 = (zk_rgn (zt_types.getD 64 (0, 0, 0, [])).2.2.2.tail i).2.2 := by
  show (if (zk_f0 (zt_types.getD 64 (0, 0, 0, []))).1 = 9 then zk_rgn (zt_types.getD 64 (0, 0, 0, [])).2.2.2.tail (j % (zk_f0 (zt_types.getD 64 (0, 0, 0, []))).2.1) else zk_f0 (zt_types.getD 64 (0, 0, 0, []))).2.2 = _
  rw [if_pos (by decide +kernel), show (zk_f0 (zt_types.getD 64 (0, 0, 0, []))).2.1 = 34 from by decide +kernel, hi]
theorem zl_62_59 {j i : Nat} (hi : i < 34) (hjξ : i = j % 34) : (zk_fj zl_T (i + 5)).2.2 = (zk_fj (zt_types.getD 62 (0, 0, 0, [])) j).2.2 := by
  rw [zl_rg_62 hjξ]
  have h : ∀ i, i < 34 → (zk_fj zl_T (i + 5)).2.2 = (zk_rgn (zt_types.getD 62 (0, 0, 0, [])).2.2.2.tail i).2.2 := by decide +kernel
  exact h i hi
theorem zl_62_64 {j j' : Nat} (hjξ : j % 34 = j' % 34) : (zk_fj (zt_types.getD 62 (0, 0, 0, [])) j).2.2 = (zk_fj (zt_types.getD 64 (0, 0, 0, [])) j').2.2 := by
  rw [zl_rg_62 rfl, zl_rg_64 hjξ]
  have h : ∀ i, i < 34 → (zk_rgn (zt_types.getD 62 (0, 0, 0, [])).2.2.2.tail i).2.2 = (zk_rgn (zt_types.getD 64 (0, 0, 0, [])).2.2.2.tail i).2.2 := by decide +kernel
  exact h _ (Nat.mod_lt _ (by decide))
theorem zl_62_62 {j j' : Nat} (hjξ : j % 34 = j' % 34) : (zk_fj (zt_types.getD 62 (0, 0, 0, [])) j).2.2 = (zk_fj (zt_types.getD 62 (0, 0, 0, [])) j').2.2 := by
  rw [zl_rg_62 rfl, zl_rg_62 hjξ]
theorem zMV_cg {A : Nat → Nat} {V V' : Nat → Nat → Int} {P : Nat → Option Nat} {G : Nat → Nat → Int} (h : zMVr A V P G) (e : V = V') : zMVr A V' P G := e ▸ h
noncomputable def zK_kal : zk_K := (zt_mn 264, prog_14_method_10_code, 3, (Option.none : Option Jvm.ClassFile.FieldType), 1, 12, [(2, 13, 0, 0), (0, 0, 0, 17)], [(none, [])], zUE, (0, 0, 0, 0))
noncomputable def zφ_kal (A : Nat → Nat) (V : Nat → Nat → Int) (k1ξ : Nat) : (Nat → Option Nat) → (Nat → Nat → Int) → List Int → Prop := fun P G ps => zMVr A V P G ∧ ps.getD 0 0 = (A 0 : Int) ∧ (ps.getD 1 0) = (k1ξ : Int)
noncomputable def zψ_kal (A : Nat → Nat) (V : Nat → Nat → Int) (k1ξ : Nat) : (Nat → Option Nat) → (Nat → Nat → Int) → List Int → (Nat → Option Nat) → (Nat → Nat → Int) → Int → Prop := fun P G ps P' G' rn => P' = P ∧ zMVr A (zc_cp V 3 5 6 (34 * k1ξ) 34) P' G'
theorem zX_kal {l : Launch} {w : zk_W} (hWξ : zh_W w) (A : Nat → Nat) (V : Nat → Nat → Int) (k1ξ : Nat) : zk_metX l w zt_dv zt_TB zK_kal (zp_A (zφ_kal A V k1ξ)) (zp_B (zψ_kal A V k1ξ)) ∧ zk_cok w zt_TB zK_kal := by
  refine zp_methX (cn := "WoundTownModel") zp_lkall hWξ (pl := 1908) rfl (by decide +kernel) (fun p e R s m args below meth c Q u hx hb hEξ hQξ hU5ξ heffξ hnLξ hokξ hφ => ?_)
  have hwξ := hWξ.1
  obtain ⟨p0ξ, p1ξ, hpsξ, tk0, tk1⟩ := zp_ps2 hokξ
  have hrmξ : zk_Kr (zk_ev (zt_types, zp_lk, zt_dv, [], [], zp_lc, zK_kal)) = zk_Kr zK_kal := rfl
  rw [hpsξ] at hφ ⊢
  have hφ : zMVr A V u.1 (zp_n u.2.1) ∧ p0ξ = (A 0 : Int) ∧ p1ξ = (k1ξ : Int) := hφ
  obtain ⟨⟨M, hMξ, hVξ, hSbξ⟩, rfl, rfl⟩ := hφ
  have hi1ξ := zp_int tk1
  show zp_J p l e R s m args below meth c Q w u [] 0 [(0, 2, (A 0 : Int)), (1, 0, (k1ξ : Int))] [] u.1 (zp_n u.2.1)
  have loop : ∀ (r9ξ i9ξ : Nat) (G : Nat → Nat → Int), r9ξ + i9ξ = 34 → zMVr A (zc_cp V 3 5 6 (34 * k1ξ) i9ξ) u.1 G → zp_J p l e R s m args below meth c Q w u [] 2 [(2, 0, (i9ξ : Int)), (0, 2, (A 0 : Int)), (1, 0, (k1ξ : Int))] [] u.1 G := by
    intro r9ξ
    induction r9ξ with
    | zero =>
      intro i9ξ G hrξ hMV9ξ
      obtain rfl : i9ξ = 34 := by omega
      obtain ⟨M9ξ, hM9ξ, hV9ξ, hSb9ξ⟩ := hMV9ξ
      show zp_J p l e R s m args below meth c Q w u [] 2 [(2, 0, 34), (0, 2, (A 0 : Int)), (1, 0, (k1ξ : Int))] [] u.1 G
      refine zp_load (pc := 2) hx hb (zd_X12_keepAll (2, .iload_n 2, 1, 0, []) (List.mem_of_getElem? (i := 2) rfl)) rfl (j := 0) rfl ?_
      refine zp_const (pc := 3) hx hb (zd_X12_keepAll (3, .bipush 34, 2, 0, []) (List.mem_of_getElem? (i := 3) rfl)) rfl rfl ?_
      refine zp_icmp (pc := 5) (tgt := 33) hx hb (zd_X12_keepAll (5, .if_icmp .ge 28, 3, 0, []) (List.mem_of_getElem? (i := 4) rfl)) rfl (fun (hc54ξ : 34 ≤ (34 : Int)) => ?_) (fun (hc54ξ : ¬ (34 ≤ (34 : Int))) => ?_)
      · refine zp_vret (pc := 33) hx hb hEξ hQξ hU5ξ rfl (by decide) (zd_X12_keepAll (33, .return_, 1, 0, []) (List.mem_of_getElem? (i := 21) rfl)) (j := 0) rfl ?_
        rw [hpsξ]
        refine ⟨rfl, ?_⟩
        exact ⟨M9ξ, hM9ξ, hV9ξ, hSb9ξ⟩
      · exfalso
        omega
    | succ r9ξ ih =>
      intro i9ξ G hrξ hMV9ξ
      obtain ⟨M9ξ, hM9ξ, hV9ξ, hSb9ξ⟩ := hMV9ξ
      refine zp_load (pc := 2) hx hb (zd_X12_keepAll (2, .iload_n 2, 1, 0, []) (List.mem_of_getElem? (i := 2) rfl)) rfl (j := 0) rfl ?_
      refine zp_const (pc := 3) hx hb (zd_X12_keepAll (3, .bipush 34, 2, 0, []) (List.mem_of_getElem? (i := 3) rfl)) rfl rfl ?_
      refine zp_icmp (pc := 5) (tgt := 33) hx hb (zd_X12_keepAll (5, .if_icmp .ge 28, 3, 0, []) (List.mem_of_getElem? (i := 4) rfl)) rfl (fun (hc55ξ : 34 ≤ (i9ξ : Int)) => ?_) (fun (hc55ξ : ¬ (34 ≤ (i9ξ : Int))) => ?_)
      · exfalso
        omega
      · refine zp_load (pc := 8) hx hb (zd_X12_keepAll (8, .aload_n 0, 1, 0, []) (List.mem_of_getElem? (i := 5) rfl)) rfl (j := 1) rfl ?_
        refine zp_getf (n := (A 6 : Int)) (pc := 9) hx hb hEξ hwξ (zd_X12_keepAll (9, .getfield 23, 3, 0, []) (List.mem_of_getElem? (i := 6) rfl)) (j := 24) rfl rfl rfl (zM_P hM9ξ (List.mem_of_getElem? (i := 0) rfl)) ((zM_G hM9ξ (List.mem_of_getElem? (i := 0) rfl) 6).trans (zM_F hM9ξ (List.mem_of_getElem? (i := 4) rfl))) ?_
        refine zp_const (pc := 12) hx hb (zd_X12_keepAll (12, .bipush 34, 2, 0, []) (List.mem_of_getElem? (i := 7) rfl)) rfl rfl ?_
        refine zp_load (pc := 14) hx hb (zd_X12_keepAll (14, .iload_n 1, 1, 0, []) (List.mem_of_getElem? (i := 8) rfl)) rfl (j := 2) rfl ?_
        refine zp_mul (n := (34 * (k1ξ : Int))) (pc := 15) hx hb (zd_X12_keepAll (15, .imul, 1, 0, []) (List.mem_of_getElem? (i := 9) rfl)) (by omega) (zp_r0 (by omega) (by omega)) ?_
        refine zp_load (pc := 16) hx hb (zd_X12_keepAll (16, .iload_n 2, 1, 0, []) (List.mem_of_getElem? (i := 10) rfl)) rfl (j := 0) rfl ?_
        refine zp_add (n := (34 * (k1ξ : Int) + (i9ξ : Int))) (pc := 17) hx hb (zd_X12_keepAll (17, .iadd, 1, 0, []) (List.mem_of_getElem? (i := 11) rfl)) (by omega) (zp_r0 (by omega) (by omega)) ?_
        refine zp_load (pc := 18) hx hb (zd_X12_keepAll (18, .aload_n 0, 1, 0, []) (List.mem_of_getElem? (i := 12) rfl)) rfl (j := 1) rfl ?_
        refine zp_getf (n := (A 3 : Int)) (pc := 19) hx hb hEξ hwξ (zd_X12_keepAll (19, .getfield 13, 3, 0, []) (List.mem_of_getElem? (i := 13) rfl)) (j := 21) rfl rfl rfl (zM_P hM9ξ (List.mem_of_getElem? (i := 0) rfl)) ((zM_G hM9ξ (List.mem_of_getElem? (i := 0) rfl) 3).trans (zM_F hM9ξ (List.mem_of_getElem? (i := 1) rfl))) ?_
        refine zp_const (pc := 22) hx hb (zd_X12_keepAll (22, .iconst 5, 1, 0, []) (List.mem_of_getElem? (i := 14) rfl)) rfl rfl ?_
        refine zp_load (pc := 23) hx hb (zd_X12_keepAll (23, .iload_n 2, 1, 0, []) (List.mem_of_getElem? (i := 15) rfl)) rfl (j := 0) rfl ?_
        refine zp_add (n := ((i9ξ : Int) + 5)) (pc := 24) hx hb (zd_X12_keepAll (24, .iadd, 1, 0, []) (List.mem_of_getElem? (i := 16) rfl)) (by omega) (zp_r0 (by omega) (by omega)) ?_
        refine zp_ialdT (j := (i9ξ + 5)) (v := (V 3 (2000 + (i9ξ + 5)))) (pc := 25) hx hb hwξ (zd_X12_keepAll (25, .iaload, 1, 0, []) (List.mem_of_getElem? (i := 17) rfl)) zl_T59 rfl (zl_kd ((i9ξ + 5))) (zM_P hM9ξ (List.mem_of_getElem? (i := 2) rfl)) (by omega) (show (i9ξ + 5) < 5580 by omega) (((zM_G hM9ξ (List.mem_of_getElem? (i := 2) rfl) (2000 + (i9ξ + 5))).trans (hV9ξ 3 (2000 + (i9ξ + 5)) (Or.inl (by decide)))).trans (zc_cp_o (by decide))) (fun hk56ξ => ?_)
        refine zp_iastT (j := (34 * k1ξ + i9ξ)) (T := zt_types.getD 62 (0, 0, 0, [])) (pc := 26) hx hb hwξ heffξ (zd_X12_keepAll (26, .iastore, 1, 0, []) (List.mem_of_getElem? (i := 18) rfl)) rfl rfl (zl_k0_62 (34 * k1ξ + i9ξ)) (zM_P hM9ξ (List.mem_of_getElem? (i := 5) rfl)) (by omega) (show (34 * k1ξ + i9ξ) < 612 by omega) (by omega) (zl_cpo (zl_kd (i9ξ + 5)) (zl_k0_62 _) (zl_62_59 (i := i9ξ) (by omega) (by omega)).symm hk56ξ) (Or.inr ⟨by decide, by decide⟩) rfl ?_
        refine zp_iinc (L' := [(2, 0, ((i9ξ : Int) + 1)), (0, 2, (A 0 : Int)), (1, 0, (k1ξ : Int))]) (n := ((i9ξ : Int) + 1)) (pc := 27) hx hb hnLξ (zd_X12_keepAll (27, .iinc 2 1, 3, 0, []) (List.mem_of_getElem? (i := 19) rfl)) (j := 0) rfl (by omega) (zp_r0 (by omega) (by omega)) rfl rfl ?_
        refine zp_goto (tgt := 2) (pc := 30) hx hb (zd_X12_keepAll (30, .goto (-28), 3, 0, []) (List.mem_of_getElem? (i := 20) rfl)) rfl ?_
        refine zp_drop (L' := [(2, 0, ((i9ξ : Int) + 1)), (0, 2, (A 0 : Int)), (1, 0, (k1ξ : Int))]) (by simp) ?_
        refine ih (i9ξ + 1) _ (by omega) (zMV_cg ⟨(zp_set M9ξ 6 (2000 + (34 * k1ξ + i9ξ)) (V 3 (2000 + (i9ξ + 5)))), (zM_setE hM9ξ (List.mem_of_getElem? (i := 5) rfl)), (zV_set hV9ξ), (zSb_set (by decide) hSb9ξ)⟩ ?_)
        rw [show (2000 + (34 * k1ξ + i9ξ) : Nat) = 2000 + ((34 * k1ξ) + i9ξ) by omega, show (V 3 (2000 + (i9ξ + 5))) = V 3 (2000 + (5 + i9ξ)) from congrArg (fun z => V 3 (2000 + z)) (by omega)]
        exact zc_cp_s
  refine zp_const (pc := 0) hx hb (zd_X12_keepAll (0, .iconst 0, 1, 0, []) (List.mem_of_getElem? (i := 0) rfl)) rfl rfl ?_
  refine zp_store (L' := [(2, 0, 0), (0, 2, (A 0 : Int)), (1, 0, (k1ξ : Int))]) (pc := 1) hx hb hnLξ (zd_X12_keepAll (1, .istore_n 2, 1, 0, []) (List.mem_of_getElem? (i := 1) rfl)) rfl rfl rfl ?_
  exact loop 34 0 (zp_n u.2.1) (by omega) (zMV_cg ⟨M, hMξ, hVξ, hSbξ⟩ zc_cp_0.symm)
noncomputable def zK_pub : zk_K := (zt_mn 184, prog_14_method_11_code, 3, (Option.none : Option Jvm.ClassFile.FieldType), 1, 12, [(2, 13, 0, 0), (0, 0, 0, 17)], [(none, [])], zUE, (0, 0, 0, 0))
noncomputable def zφ_pub (A : Nat → Nat) (V : Nat → Nat → Int) (k1ξ : Nat) : (Nat → Option Nat) → (Nat → Nat → Int) → List Int → Prop := fun P G ps => zMVr A V P G ∧ ps.getD 0 0 = (A 0 : Int) ∧ (ps.getD 1 0) = (k1ξ : Int)
noncomputable def zψ_pub (A : Nat → Nat) (V : Nat → Nat → Int) (k1ξ : Nat) : (Nat → Option Nat) → (Nat → Nat → Int) → List Int → (Nat → Option Nat) → (Nat → Nat → Int) → Int → Prop := fun P G ps P' G' rn => P' = P ∧ zMVr A (zc_cp V 6 (34 * k1ξ) 3 5 34) P' G'
theorem zX_pub {l : Launch} {w : zk_W} (hWξ : zh_W w) (A : Nat → Nat) (V : Nat → Nat → Int) (k1ξ : Nat) : zk_metX l w zt_dv zt_TB zK_pub (zp_A (zφ_pub A V k1ξ)) (zp_B (zψ_pub A V k1ξ)) ∧ zk_cok w zt_TB zK_pub := by
  refine zp_methX (cn := "WoundTownModel") zp_lkall hWξ (pl := 1565) rfl (by decide +kernel) (fun p e R s m args below meth c Q u hx hb hEξ hQξ hU5ξ heffξ hnLξ hokξ hφ => ?_)
  have hwξ := hWξ.1
  obtain ⟨p0ξ, p1ξ, hpsξ, tk0, tk1⟩ := zp_ps2 hokξ
  have hrmξ : zk_Kr (zk_ev (zt_types, zp_lk, zt_dv, [], [], zp_lc, zK_pub)) = zk_Kr zK_pub := rfl
  rw [hpsξ] at hφ ⊢
  have hφ : zMVr A V u.1 (zp_n u.2.1) ∧ p0ξ = (A 0 : Int) ∧ p1ξ = (k1ξ : Int) := hφ
  obtain ⟨⟨M, hMξ, hVξ, hSbξ⟩, rfl, rfl⟩ := hφ
  have hi1ξ := zp_int tk1
  show zp_J p l e R s m args below meth c Q w u [] 0 [(0, 2, (A 0 : Int)), (1, 0, (k1ξ : Int))] [] u.1 (zp_n u.2.1)
  have loop : ∀ (r9ξ i9ξ : Nat) (G : Nat → Nat → Int), r9ξ + i9ξ = 34 → zMVr A (zc_cp V 6 (34 * k1ξ) 3 5 i9ξ) u.1 G → zp_J p l e R s m args below meth c Q w u [] 2 [(2, 0, (i9ξ : Int)), (0, 2, (A 0 : Int)), (1, 0, (k1ξ : Int))] [] u.1 G := by
    intro r9ξ
    induction r9ξ with
    | zero =>
      intro i9ξ G hrξ hMV9ξ
      obtain rfl : i9ξ = 34 := by omega
      obtain ⟨M9ξ, hM9ξ, hV9ξ, hSb9ξ⟩ := hMV9ξ
      show zp_J p l e R s m args below meth c Q w u [] 2 [(2, 0, 34), (0, 2, (A 0 : Int)), (1, 0, (k1ξ : Int))] [] u.1 G
      refine zp_load (pc := 2) hx hb (zd_X12_putBack (2, .iload_n 2, 1, 0, []) (List.mem_of_getElem? (i := 2) rfl)) rfl (j := 0) rfl ?_
      refine zp_const (pc := 3) hx hb (zd_X12_putBack (3, .bipush 34, 2, 0, []) (List.mem_of_getElem? (i := 3) rfl)) rfl rfl ?_
      refine zp_icmp (pc := 5) (tgt := 33) hx hb (zd_X12_putBack (5, .if_icmp .ge 28, 3, 0, []) (List.mem_of_getElem? (i := 4) rfl)) rfl (fun (hc57ξ : 34 ≤ (34 : Int)) => ?_) (fun (hc57ξ : ¬ (34 ≤ (34 : Int))) => ?_)
      · refine zp_vret (pc := 33) hx hb hEξ hQξ hU5ξ rfl (by decide) (zd_X12_putBack (33, .return_, 1, 0, []) (List.mem_of_getElem? (i := 21) rfl)) (j := 0) rfl ?_
        rw [hpsξ]
        refine ⟨rfl, ?_⟩
        exact ⟨M9ξ, hM9ξ, hV9ξ, hSb9ξ⟩
      · exfalso
        omega
    | succ r9ξ ih =>
      intro i9ξ G hrξ hMV9ξ
      obtain ⟨M9ξ, hM9ξ, hV9ξ, hSb9ξ⟩ := hMV9ξ
      refine zp_load (pc := 2) hx hb (zd_X12_putBack (2, .iload_n 2, 1, 0, []) (List.mem_of_getElem? (i := 2) rfl)) rfl (j := 0) rfl ?_
      refine zp_const (pc := 3) hx hb (zd_X12_putBack (3, .bipush 34, 2, 0, []) (List.mem_of_getElem? (i := 3) rfl)) rfl rfl ?_
      refine zp_icmp (pc := 5) (tgt := 33) hx hb (zd_X12_putBack (5, .if_icmp .ge 28, 3, 0, []) (List.mem_of_getElem? (i := 4) rfl)) rfl (fun (hc58ξ : 34 ≤ (i9ξ : Int)) => ?_) (fun (hc58ξ : ¬ (34 ≤ (i9ξ : Int))) => ?_)
      · exfalso
        omega
      · refine zp_load (pc := 8) hx hb (zd_X12_putBack (8, .aload_n 0, 1, 0, []) (List.mem_of_getElem? (i := 5) rfl)) rfl (j := 1) rfl ?_
        refine zp_getf (n := (A 3 : Int)) (pc := 9) hx hb hEξ hwξ (zd_X12_putBack (9, .getfield 13, 3, 0, []) (List.mem_of_getElem? (i := 6) rfl)) (j := 21) rfl rfl rfl (zM_P hM9ξ (List.mem_of_getElem? (i := 0) rfl)) ((zM_G hM9ξ (List.mem_of_getElem? (i := 0) rfl) 3).trans (zM_F hM9ξ (List.mem_of_getElem? (i := 1) rfl))) ?_
        refine zp_const (pc := 12) hx hb (zd_X12_putBack (12, .iconst 5, 1, 0, []) (List.mem_of_getElem? (i := 7) rfl)) rfl rfl ?_
        refine zp_load (pc := 13) hx hb (zd_X12_putBack (13, .iload_n 2, 1, 0, []) (List.mem_of_getElem? (i := 8) rfl)) rfl (j := 0) rfl ?_
        refine zp_add (n := ((i9ξ : Int) + 5)) (pc := 14) hx hb (zd_X12_putBack (14, .iadd, 1, 0, []) (List.mem_of_getElem? (i := 9) rfl)) (by omega) (zp_r0 (by omega) (by omega)) ?_
        refine zp_load (pc := 15) hx hb (zd_X12_putBack (15, .aload_n 0, 1, 0, []) (List.mem_of_getElem? (i := 10) rfl)) rfl (j := 1) rfl ?_
        refine zp_getf (n := (A 6 : Int)) (pc := 16) hx hb hEξ hwξ (zd_X12_putBack (16, .getfield 23, 3, 0, []) (List.mem_of_getElem? (i := 11) rfl)) (j := 24) rfl rfl rfl (zM_P hM9ξ (List.mem_of_getElem? (i := 0) rfl)) ((zM_G hM9ξ (List.mem_of_getElem? (i := 0) rfl) 6).trans (zM_F hM9ξ (List.mem_of_getElem? (i := 4) rfl))) ?_
        refine zp_const (pc := 19) hx hb (zd_X12_putBack (19, .bipush 34, 2, 0, []) (List.mem_of_getElem? (i := 12) rfl)) rfl rfl ?_
        refine zp_load (pc := 21) hx hb (zd_X12_putBack (21, .iload_n 1, 1, 0, []) (List.mem_of_getElem? (i := 13) rfl)) rfl (j := 2) rfl ?_
        refine zp_mul (n := (34 * (k1ξ : Int))) (pc := 22) hx hb (zd_X12_putBack (22, .imul, 1, 0, []) (List.mem_of_getElem? (i := 14) rfl)) (by omega) (zp_r0 (by omega) (by omega)) ?_
        refine zp_load (pc := 23) hx hb (zd_X12_putBack (23, .iload_n 2, 1, 0, []) (List.mem_of_getElem? (i := 15) rfl)) rfl (j := 0) rfl ?_
        refine zp_add (n := (34 * (k1ξ : Int) + (i9ξ : Int))) (pc := 24) hx hb (zd_X12_putBack (24, .iadd, 1, 0, []) (List.mem_of_getElem? (i := 16) rfl)) (by omega) (zp_r0 (by omega) (by omega)) ?_
        refine zp_ialdT (j := (34 * k1ξ + i9ξ)) (v := (V 6 (2000 + (34 * k1ξ + i9ξ)))) (T := zt_types.getD 62 (0, 0, 0, [])) (pc := 25) hx hb hwξ (zd_X12_putBack (25, .iaload, 1, 0, []) (List.mem_of_getElem? (i := 17) rfl)) rfl rfl (zl_k0_62 (34 * k1ξ + i9ξ)) (zM_P hM9ξ (List.mem_of_getElem? (i := 5) rfl)) (by omega) (show (34 * k1ξ + i9ξ) < 612 by omega) (((zM_G hM9ξ (List.mem_of_getElem? (i := 5) rfl) (2000 + (34 * k1ξ + i9ξ))).trans (hV9ξ 6 (2000 + (34 * k1ξ + i9ξ)) (Or.inl (by decide)))).trans (zc_cp_o (by decide))) (fun hk59ξ => ?_)
        refine zp_iastR (j := (i9ξ + 5)) (pc := 26) hx hb hwξ heffξ (zd_X12_putBack (26, .iastore, 1, 0, []) (List.mem_of_getElem? (i := 18) rfl)) (zM_P hM9ξ (List.mem_of_getElem? (i := 2) rfl)) (by omega) (show (i9ξ + 5) < 180 by omega) (zl_cpo (zl_k0_62 _) (zl_kd (i9ξ + 5)) (zl_62_59 (i := i9ξ) (by omega) (by omega)) hk59ξ) ⟨1002, rfl, zp_1002 (by omega)⟩ ?_
        refine zp_iinc (L' := [(2, 0, ((i9ξ : Int) + 1)), (0, 2, (A 0 : Int)), (1, 0, (k1ξ : Int))]) (n := ((i9ξ : Int) + 1)) (pc := 27) hx hb hnLξ (zd_X12_putBack (27, .iinc 2 1, 3, 0, []) (List.mem_of_getElem? (i := 19) rfl)) (j := 0) rfl (by omega) (zp_r0 (by omega) (by omega)) rfl rfl ?_
        refine zp_goto (tgt := 2) (pc := 30) hx hb (zd_X12_putBack (30, .goto (-28), 3, 0, []) (List.mem_of_getElem? (i := 20) rfl)) rfl ?_
        refine zp_drop (L' := [(2, 0, ((i9ξ : Int) + 1)), (0, 2, (A 0 : Int)), (1, 0, (k1ξ : Int))]) (by simp) ?_
        refine ih (i9ξ + 1) _ (by omega) (zMV_cg ⟨(zp_set M9ξ 3 (2000 + (i9ξ + 5)) (V 6 (2000 + (34 * k1ξ + i9ξ)))), (zM_setE hM9ξ (List.mem_of_getElem? (i := 2) rfl)), (zV_set hV9ξ), (zSb_set (by decide) hSb9ξ)⟩ ?_)
        rw [show (2000 + (i9ξ + 5) : Nat) = 2000 + (5 + i9ξ) by omega, show (V 6 (2000 + (34 * k1ξ + i9ξ))) = V 6 (2000 + ((34 * k1ξ) + i9ξ)) from congrArg (fun z => V 6 (2000 + z)) (by omega)]
        exact zc_cp_s
  refine zp_const (pc := 0) hx hb (zd_X12_putBack (0, .iconst 0, 1, 0, []) (List.mem_of_getElem? (i := 0) rfl)) rfl rfl ?_
  refine zp_store (L' := [(2, 0, 0), (0, 2, (A 0 : Int)), (1, 0, (k1ξ : Int))]) (pc := 1) hx hb hnLξ (zd_X12_putBack (1, .istore_n 2, 1, 0, []) (List.mem_of_getElem? (i := 1) rfl)) rfl rfl rfl ?_
  exact loop 34 0 (zp_n u.2.1) (by omega) (zMV_cg ⟨M, hMξ, hVξ, hSbξ⟩ zc_cp_0.symm)
