/-! part i9ξ: the class over logical cells: of -/
noncomputable def zK_isd1 : zk_K := (zt_mn 25, prog_11_method_5_code, 2, (Option.some Jvm.ClassFile.FieldType.boolean), 1, 9, [(2, 10, 0, 0), (0, 0, (-2147483648), 2147483647)], [(some (0, 0, 0, 1), [])], [], (1, 60, 0, 0))
noncomputable def zφ_isd1 (A : Nat → Nat) (Y : List (Nat × Nat)) (F : List (Nat × Nat × Nat)) (M : Nat → Nat → Int) (V : Nat → Nat → Int) : (Nat → Option Nat) → (Nat → Nat → Int) → List Int → Prop := fun P G ps => zM A Y F M P G ∧ ps.getD 0 0 = (A 1 : Int) ∧ zMc Y F ∧ (∀ o k, zNc o → M o k = V o k)
noncomputable def zψ_isd1 (A : Nat → Nat) (Y : List (Nat × Nat)) (F : List (Nat × Nat × Nat)) (M : Nat → Nat → Int) (V : Nat → Nat → Int) : (Nat → Option Nat) → (Nat → Nat → Int) → List Int → (Nat → Option Nat) → (Nat → Nat → Int) → Int → Prop := fun P G ps P' G' rn => P' = P ∧ G' = G ∧ (rn = 1 ↔ (0 ≤ (ps.getD 1 0) ∧ (ps.getD 1 0) < V 1 3 ∧ (ps.getD 1 0) < 10) ∧ V 33 (2000 + (ps.getD 1 0).toNat) ≤ V 52 (2000 + (ps.getD 1 0).toNat))
theorem zX_isd1 {l : Launch} {w : zk_W} (hWξ : zh_W w) (A : Nat → Nat) (Y : List (Nat × Nat)) (F : List (Nat × Nat × Nat)) (M : Nat → Nat → Int) (V : Nat → Nat → Int) : zk_metX l w zt_dv zt_TB zK_isd1 (zp_A (zφ_isd1 A Y F M V)) (zp_B (zψ_isd1 A Y F M V)) ∧ zk_cok w zt_TB zK_isd1 := by
  refine zp_methX (cn := "WoundTown$Town") zp_lkallN hWξ (pl := 647) rfl (by decide +kernel) (fun p e R s m args below meth c Q u hx hb hEξ hQξ hU5ξ heffξ hnLξ hokξ hφ => ?_)
  have hwξ := hWξ.1
  obtain ⟨p0ξ, p1ξ, hpsξ, tk0, tk1⟩ := zp_ps2 hokξ
  have hrmξ : zk_Kr (zk_ev (zt_types, zp_lkN, zt_dv, [], [], zp_lcN, zK_isd1)) = zk_Kr zK_isd1 := rfl
  rw [hpsξ] at hφ ⊢
  have hφ : zM A Y F M u.1 (zp_n u.2.1) ∧ p0ξ = (A 1 : Int) ∧ zMc Y F ∧ (∀ o k, zNc o → M o k = V o k) := hφ
  obtain ⟨hMξ, rfl, hYFξ, hVξ⟩ := hφ
  have hYF0ξ := hYFξ
  obtain ⟨hYbξ, hFbξ, hFxξ, -⟩ := hYFξ
  have hi1ξ := zp_int tk1
  show zp_J p l e R s m args below meth c Q w u [] 0 [(0, 2, (A 1 : Int)), (1, 0, p1ξ)] [] u.1 (zp_n u.2.1)
  refine zp_load (pc := 0) hx hb (zd_X9_isDone (0, .aload_n 0, 1, 0, []) (List.mem_of_getElem? (i := 0) rfl)) rfl (j := 0) rfl ?_
  refine zp_load (pc := 1) hx hb (zd_X9_isDone (1, .iload_n 1, 1, 0, []) (List.mem_of_getElem? (i := 1) rfl)) rfl (j := 1) rfl ?_
  refine zp_call (pc := 2) (how := 0) (idx := 87) (mi := 26) (S := []) hx hb hEξ hwξ heffξ hrmξ (zX_hwo1 hWξ A Y F M) rfl (j := 2) rfl rfl (by decide +kernel) (zd_X9_isDone (2, .invokevirtual 87, 3, 0, []) (List.mem_of_getElem? (i := 2) rfl)) [(A 1 : Int), p1ξ] rfl ⟨zp_o2 (zM_P hMξ (hYbξ _ (List.mem_of_getElem? (i := 1) rfl))), zp_o0 (by omega) (by omega) (by omega) (by omega), trivial⟩ (Nat.le_of_ble_eq_true rfl) ⟨hMξ, rfl, hYF0ξ⟩ (fun al halξ rni417ξ Pi417 Gi417 hexti417ξ hfri417ξ hoki417ξ hcsi417ξ hpsii417ξ => ?_)
  obtain rfl := List.mem_singleton.mp halξ
  have hri417ξ := zp_int (hoki417ξ _ rfl).1
  obtain ⟨hPei417ξ, hGei417ξ, hti417ξ⟩ := hpsii417ξ
  rw [hPei417ξ, hGei417ξ]
  clear hexti417ξ hfri417ξ hcsi417ξ hPei417ξ hGei417ξ
  have hti417ξ : rni417ξ = 1 ↔ 0 ≤ p1ξ ∧ p1ξ < (V 1 3) ∧ p1ξ < 10 := by
    have h9ξ : rni417ξ = 1 ↔ 0 ≤ p1ξ ∧ p1ξ < M 1 3 ∧ p1ξ < 10 := hti417ξ
    rw [(hVξ 1 3 (by decide))] at h9ξ
    exact h9ξ
  refine zp_if (pc := 5) (tgt := 30) hx hb (zd_X9_isDone (5, .ifCond .eq 25, 3, 0, []) (List.mem_of_getElem? (i := 3) rfl)) rfl (fun (hc418ξ : rni417ξ = 0) => ?_) (fun (hc418ξ : ¬ (rni417ξ = 0)) => ?_)
  · have hbf419ξ : ¬ (0 ≤ p1ξ ∧ p1ξ < (V 1 3) ∧ p1ξ < 10) := fun h9ξ => absurd ((Iff.mpr hti417ξ) h9ξ) (by omega)
    refine zp_const (pc := 30) hx hb (zd_X9_isDone (30, .iconst 0, 1, 0, []) (List.mem_of_getElem? (i := 16) rfl)) rfl rfl ?_
    refine zp_zret (pc := 31) (n := 0) hx hb hEξ hQξ hU5ξ rfl (by decide) (zd_X9_isDone (31, .ireturn, 1, 0, []) (List.mem_of_getElem? (i := 17) rfl)) (j := 0) rfl (zp_o0 (by omega) (by omega) (by omega) (by omega)) ?_
    rw [hpsξ]
    refine ⟨rfl, rfl, ?_⟩
    show (0 : Int) = 1 ↔ (0 ≤ p1ξ ∧ p1ξ < V 1 3 ∧ p1ξ < 10) ∧ V 33 (2000 + p1ξ.toNat) ≤ V 52 (2000 + p1ξ.toNat)
    omega
  · have hbt420ξ := (Iff.mp hti417ξ) (by omega)
    refine zp_load (pc := 8) hx hb (zd_X9_isDone (8, .aload_n 0, 1, 0, []) (List.mem_of_getElem? (i := 4) rfl)) rfl (j := 0) rfl ?_
    refine zp_getf (n := (A 2 : Int)) (pc := 9) hx hb hEξ hwξ (zd_X9_isDone (9, .getfield 58, 3, 0, []) (List.mem_of_getElem? (i := 5) rfl)) (j := 25) rfl rfl rfl (zM_P hMξ (hYbξ _ (List.mem_of_getElem? (i := 1) rfl))) ((zM_G hMξ (hYbξ _ (List.mem_of_getElem? (i := 1) rfl)) 18).trans (zM_F hMξ (hFbξ _ (List.mem_of_getElem? (i := 24) rfl)))) ?_
    refine zp_getf (n := (A 52 : Int)) (pc := 12) hx hb hEξ hwξ (zd_X9_isDone (12, .getfield 91, 3, 0, []) (List.mem_of_getElem? (i := 6) rfl)) (j := 5) rfl rfl rfl (zM_P hMξ (hYbξ _ (List.mem_of_getElem? (i := 2) rfl))) ((zM_G hMξ (hYbξ _ (List.mem_of_getElem? (i := 2) rfl)) 2).trans (zM_F hMξ (hFbξ _ (List.mem_of_getElem? (i := 27) rfl)))) ?_
    refine zp_load (pc := 15) hx hb (zd_X9_isDone (15, .iload_n 1, 1, 0, []) (List.mem_of_getElem? (i := 7) rfl)) rfl (j := 1) rfl ?_
    refine zp_iald (j := p1ξ.toNat) (v := (V 52 (2000 + p1ξ.toNat))) (pc := 16) hx hb hwξ (zd_X9_isDone (16, .iaload, 1, 0, []) (List.mem_of_getElem? (i := 8) rfl)) (show zp_ia 1 19 = some (10, 0, 0, (-2147483648), 2147483647) from rfl) (zM_P hMξ (hYbξ _ (List.mem_of_getElem? (i := 30) rfl))) (by omega) (by omega) ((zM_G hMξ (hYbξ _ (List.mem_of_getElem? (i := 30) rfl)) (2000 + p1ξ.toNat)).trans (hVξ 52 (2000 + p1ξ.toNat) (by decide))) (fun hk421ξ => ?_)
    have hk421bξ := zp_int hk421ξ
    clear hk421ξ
    refine zp_load (pc := 17) hx hb (zd_X9_isDone (17, .aload_n 0, 1, 0, []) (List.mem_of_getElem? (i := 9) rfl)) rfl (j := 0) rfl ?_
    refine zp_getf (n := (A 33 : Int)) (pc := 18) hx hb hEξ hwξ (zd_X9_isDone (18, .getfield 21, 3, 0, []) (List.mem_of_getElem? (i := 10) rfl)) (j := 12) rfl rfl rfl (zM_P hMξ (hYbξ _ (List.mem_of_getElem? (i := 1) rfl))) ((zM_G hMξ (hYbξ _ (List.mem_of_getElem? (i := 1) rfl)) 5).trans (zM_F hMξ (hFbξ _ (List.mem_of_getElem? (i := 16) rfl)))) ?_
    refine zp_load (pc := 21) hx hb (zd_X9_isDone (21, .iload_n 1, 1, 0, []) (List.mem_of_getElem? (i := 11) rfl)) rfl (j := 1) rfl ?_
    refine zp_iald (j := p1ξ.toNat) (v := (V 33 (2000 + p1ξ.toNat))) (pc := 22) hx hb hwξ (zd_X9_isDone (22, .iaload, 1, 0, []) (List.mem_of_getElem? (i := 12) rfl)) (show zp_ia 1 45 = some (10, 0, 0, (-2147483648), 2147483647) from rfl) (zM_P hMξ (hYbξ _ (List.mem_of_getElem? (i := 20) rfl))) (by omega) (by omega) ((zM_G hMξ (hYbξ _ (List.mem_of_getElem? (i := 20) rfl)) (2000 + p1ξ.toNat)).trans (hVξ 33 (2000 + p1ξ.toNat) (by decide))) (fun hk422ξ => ?_)
    have hk422bξ := zp_int hk422ξ
    clear hk422ξ
    refine zp_icmp (pc := 23) (tgt := 30) hx hb (zd_X9_isDone (23, .if_icmp .lt 7, 3, 0, []) (List.mem_of_getElem? (i := 13) rfl)) rfl (fun (hc423ξ : (V 52 (2000 + p1ξ.toNat)) < (V 33 (2000 + p1ξ.toNat))) => ?_) (fun (hc423ξ : ¬ ((V 52 (2000 + p1ξ.toNat)) < (V 33 (2000 + p1ξ.toNat)))) => ?_)
    · refine zp_const (pc := 30) hx hb (zd_X9_isDone (30, .iconst 0, 1, 0, []) (List.mem_of_getElem? (i := 16) rfl)) rfl rfl ?_
      refine zp_zret (pc := 31) (n := 0) hx hb hEξ hQξ hU5ξ rfl (by decide) (zd_X9_isDone (31, .ireturn, 1, 0, []) (List.mem_of_getElem? (i := 17) rfl)) (j := 0) rfl (zp_o0 (by omega) (by omega) (by omega) (by omega)) ?_
      rw [hpsξ]
      refine ⟨rfl, rfl, ?_⟩
      show (0 : Int) = 1 ↔ (0 ≤ p1ξ ∧ p1ξ < V 1 3 ∧ p1ξ < 10) ∧ V 33 (2000 + p1ξ.toNat) ≤ V 52 (2000 + p1ξ.toNat)
      omega
    · refine zp_const (pc := 26) hx hb (zd_X9_isDone (26, .iconst 1, 1, 0, []) (List.mem_of_getElem? (i := 14) rfl)) rfl rfl ?_
      refine zp_goto (tgt := 31) (pc := 27) hx hb (zd_X9_isDone (27, .goto 4, 3, 0, []) (List.mem_of_getElem? (i := 15) rfl)) rfl ?_
      refine zp_zret (pc := 31) (n := 1) hx hb hEξ hQξ hU5ξ rfl (by decide) (zd_X9_isDone (31, .ireturn, 1, 0, []) (List.mem_of_getElem? (i := 17) rfl)) (j := 0) rfl (zp_o0 (by omega) (by omega) (by omega) (by omega)) ?_
      rw [hpsξ]
      refine ⟨rfl, rfl, ?_⟩
      show (1 : Int) = 1 ↔ (0 ≤ p1ξ ∧ p1ξ < V 1 3 ∧ p1ξ < 10) ∧ V 33 (2000 + p1ξ.toNat) ≤ V 52 (2000 + p1ξ.toNat)
      omega
noncomputable def zK_wkl1 : zk_K := (zt_mn 24, prog_11_method_6_code, 4, (Option.some Jvm.ClassFile.FieldType.int), 1, 9, [(2, 10, 0, 0), (0, 0, (-2147483648), 2147483647)], [(some (0, 0, (-2147483648), 2147483647), [])], [], (2, 120, 0, 0))
noncomputable def zφ_wkl1 (A : Nat → Nat) (Y : List (Nat × Nat)) (F : List (Nat × Nat × Nat)) (M : Nat → Nat → Int) (V : Nat → Nat → Int) (n1ξ : Nat) : (Nat → Option Nat) → (Nat → Nat → Int) → List Int → Prop := fun P G ps => zM A Y F M P G ∧ ps.getD 0 0 = (A 1 : Int) ∧ zMc Y F ∧ (∀ o k, zNc o → M o k = V o k) ∧ V 1 3 = (n1ξ : Int) ∧ n1ξ ≤ 10
noncomputable def zψ_wkl1 (A : Nat → Nat) (Y : List (Nat × Nat)) (F : List (Nat × Nat × Nat)) (M : Nat → Nat → Int) (V : Nat → Nat → Int) (n1ξ : Nat) : (Nat → Option Nat) → (Nat → Nat → Int) → List Int → (Nat → Option Nat) → (Nat → Nat → Int) → Int → Prop := fun P G ps P' G' rn => P' = P ∧ G' = G ∧ rn = zc_wl (fun w => V 32 (2000 + w)) (fun w => V 52 (2000 + w)) (fun w => V 33 (2000 + w)) (ps.getD 1 0) n1ξ
theorem zX_wkl1 {l : Launch} {w : zk_W} (hWξ : zh_W w) (A : Nat → Nat) (Y : List (Nat × Nat)) (F : List (Nat × Nat × Nat)) (M : Nat → Nat → Int) (V : Nat → Nat → Int) (n1ξ : Nat) : zk_metX l w zt_dv zt_TB zK_wkl1 (zp_A (zφ_wkl1 A Y F M V n1ξ)) (zp_B (zψ_wkl1 A Y F M V n1ξ)) ∧ zk_cok w zt_TB zK_wkl1 := by
  refine zp_methX (cn := "WoundTown$Town") zp_lkallN hWξ (pl := 643) rfl (by decide +kernel) (fun p e R s m args below meth c Q u hx hb hEξ hQξ hU5ξ heffξ hnLξ hokξ hφ => ?_)
  have hwξ := hWξ.1
  obtain ⟨p0ξ, p1ξ, hpsξ, tk0, tk1⟩ := zp_ps2 hokξ
  have hrmξ : zk_Kr (zk_ev (zt_types, zp_lkN, zt_dv, [], [], zp_lcN, zK_wkl1)) = zk_Kr zK_wkl1 := rfl
  rw [hpsξ] at hφ ⊢
  have hφ : zM A Y F M u.1 (zp_n u.2.1) ∧ p0ξ = (A 1 : Int) ∧ zMc Y F ∧ (∀ o k, zNc o → M o k = V o k) ∧ V 1 3 = (n1ξ : Int) ∧ n1ξ ≤ 10 := hφ
  obtain ⟨hMξ, rfl, hYFξ, hVξ, hn1ξ, hn10ξ⟩ := hφ
  have hYF0ξ := hYFξ
  obtain ⟨hYbξ, hFbξ, hFxξ, -⟩ := hYFξ
  have hi1ξ := zp_int tk1
  show zp_J p l e R s m args below meth c Q w u [] 0 [(0, 2, (A 1 : Int)), (1, 0, p1ξ)] [] u.1 (zp_n u.2.1)
  have loop : ∀ (k9ξ w9ξ : Nat), k9ξ + w9ξ = n1ξ → zp_J p l e R s m args below meth c Q w u [] 4 [(3, 0, (w9ξ : Int)), (2, 0, (zc_wl (fun w => V 32 (2000 + w)) (fun w => V 52 (2000 + w)) (fun w => V 33 (2000 + w)) p1ξ w9ξ)), (0, 2, (A 1 : Int)), (1, 0, p1ξ)] [] u.1 (zp_n u.2.1) := by
    intro k9ξ
    induction k9ξ with
    | zero =>
      intro w9ξ hkξ
      have e9ξ : w9ξ = n1ξ := by omega
      rw [e9ξ]
      have hwbξ := zc_wlb (ow := (fun w => V 32 (2000 + w))) (dn := (fun w => V 52 (2000 + w))) (mi := (fun w => V 33 (2000 + w))) (p := p1ξ) (w := n1ξ)
      refine zp_load (pc := 4) hx hb (zd_X9_worksLeft (4, .iload_n 3, 1, 0, []) (List.mem_of_getElem? (i := 4) rfl)) rfl (j := 0) rfl ?_
      refine zp_load (pc := 5) hx hb (zd_X9_worksLeft (5, .aload_n 0, 1, 0, []) (List.mem_of_getElem? (i := 5) rfl)) rfl (j := 2) rfl ?_
      refine zp_getf (n := (n1ξ : Int)) (pc := 6) hx hb hEξ hwξ (zd_X9_worksLeft (6, .getfield 71, 3, 0, []) (List.mem_of_getElem? (i := 6) rfl)) (j := 10) rfl rfl rfl (zM_P hMξ (hYbξ _ (List.mem_of_getElem? (i := 1) rfl))) (((zM_G hMξ (hYbξ _ (List.mem_of_getElem? (i := 1) rfl)) 3).trans (hVξ 1 3 (by decide))).trans hn1ξ) ?_
      refine zp_icmp (pc := 9) (tgt := 45) hx hb (zd_X9_worksLeft (9, .if_icmp .ge 36, 3, 0, []) (List.mem_of_getElem? (i := 7) rfl)) rfl (fun (hc424ξ : (n1ξ : Int) ≤ (n1ξ : Int)) => ?_) (fun (hc424ξ : ¬ ((n1ξ : Int) ≤ (n1ξ : Int))) => ?_)
      · refine zp_load (pc := 45) hx hb (zd_X9_worksLeft (45, .iload_n 2, 1, 0, []) (List.mem_of_getElem? (i := 24) rfl)) rfl (j := 1) rfl ?_
        refine zp_iret (pc := 46) (n := (zc_wl (fun w => V 32 (2000 + w)) (fun w => V 52 (2000 + w)) (fun w => V 33 (2000 + w)) p1ξ n1ξ)) hx hb hEξ hQξ hU5ξ rfl (by decide) (zd_X9_worksLeft (46, .ireturn, 1, 0, []) (List.mem_of_getElem? (i := 25) rfl)) (j := 0) rfl (zp_o0 (by omega) (by omega) (by omega) (by omega)) ?_
        rw [hpsξ]
        refine ⟨rfl, rfl, ?_⟩
        rfl
      · exfalso
        omega
    | succ k9ξ ih =>
      intro w9ξ hkξ
      have hwbξ := zc_wlb (ow := (fun w => V 32 (2000 + w))) (dn := (fun w => V 52 (2000 + w))) (mi := (fun w => V 33 (2000 + w))) (p := p1ξ) (w := w9ξ)
      refine zp_load (pc := 4) hx hb (zd_X9_worksLeft (4, .iload_n 3, 1, 0, []) (List.mem_of_getElem? (i := 4) rfl)) rfl (j := 0) rfl ?_
      refine zp_load (pc := 5) hx hb (zd_X9_worksLeft (5, .aload_n 0, 1, 0, []) (List.mem_of_getElem? (i := 5) rfl)) rfl (j := 2) rfl ?_
      refine zp_getf (n := (n1ξ : Int)) (pc := 6) hx hb hEξ hwξ (zd_X9_worksLeft (6, .getfield 71, 3, 0, []) (List.mem_of_getElem? (i := 6) rfl)) (j := 10) rfl rfl rfl (zM_P hMξ (hYbξ _ (List.mem_of_getElem? (i := 1) rfl))) (((zM_G hMξ (hYbξ _ (List.mem_of_getElem? (i := 1) rfl)) 3).trans (hVξ 1 3 (by decide))).trans hn1ξ) ?_
      refine zp_icmp (pc := 9) (tgt := 45) hx hb (zd_X9_worksLeft (9, .if_icmp .ge 36, 3, 0, []) (List.mem_of_getElem? (i := 7) rfl)) rfl (fun (hc425ξ : (n1ξ : Int) ≤ (w9ξ : Int)) => ?_) (fun (hc425ξ : ¬ ((n1ξ : Int) ≤ (w9ξ : Int))) => ?_)
      · exfalso
        omega
      · refine zp_load (pc := 12) hx hb (zd_X9_worksLeft (12, .iload_n 3, 1, 0, []) (List.mem_of_getElem? (i := 8) rfl)) rfl (j := 0) rfl ?_
        refine zp_const (pc := 13) hx hb (zd_X9_worksLeft (13, .bipush 10, 2, 0, []) (List.mem_of_getElem? (i := 9) rfl)) rfl rfl ?_
        refine zp_icmp (pc := 15) (tgt := 45) hx hb (zd_X9_worksLeft (15, .if_icmp .ge 30, 3, 0, []) (List.mem_of_getElem? (i := 10) rfl)) rfl (fun (hc426ξ : 10 ≤ (w9ξ : Int)) => ?_) (fun (hc426ξ : ¬ (10 ≤ (w9ξ : Int))) => ?_)
        · exfalso
          omega
        · refine zp_load (pc := 18) hx hb (zd_X9_worksLeft (18, .aload_n 0, 1, 0, []) (List.mem_of_getElem? (i := 11) rfl)) rfl (j := 2) rfl ?_
          refine zp_getf (n := (A 32 : Int)) (pc := 19) hx hb hEξ hwξ (zd_X9_worksLeft (19, .getfield 18, 3, 0, []) (List.mem_of_getElem? (i := 12) rfl)) (j := 11) rfl rfl rfl (zM_P hMξ (hYbξ _ (List.mem_of_getElem? (i := 1) rfl))) ((zM_G hMξ (hYbξ _ (List.mem_of_getElem? (i := 1) rfl)) 4).trans (zM_F hMξ (hFbξ _ (List.mem_of_getElem? (i := 15) rfl)))) ?_
          refine zp_load (pc := 22) hx hb (zd_X9_worksLeft (22, .iload_n 3, 1, 0, []) (List.mem_of_getElem? (i := 13) rfl)) rfl (j := 0) rfl ?_
          refine zp_iald (j := w9ξ) (v := (V 32 (2000 + w9ξ))) (pc := 23) hx hb hwξ (zd_X9_worksLeft (23, .iaload, 1, 0, []) (List.mem_of_getElem? (i := 14) rfl)) (show zp_ia 1 44 = some (10, 0, 0, (-2147483648), 2147483647) from rfl) (zM_P hMξ (hYbξ _ (List.mem_of_getElem? (i := 19) rfl))) (by omega) (by omega) ((zM_G hMξ (hYbξ _ (List.mem_of_getElem? (i := 19) rfl)) (2000 + w9ξ)).trans (hVξ 32 (2000 + w9ξ) (by decide))) (fun hk427ξ => ?_)
          have hk427bξ := zp_int hk427ξ
          clear hk427ξ
          refine zp_load (pc := 24) hx hb (zd_X9_worksLeft (24, .iload_n 1, 1, 0, []) (List.mem_of_getElem? (i := 15) rfl)) rfl (j := 3) rfl ?_
          refine zp_icmp (pc := 25) (tgt := 39) hx hb (zd_X9_worksLeft (25, .if_icmp .ne 14, 3, 0, []) (List.mem_of_getElem? (i := 16) rfl)) rfl (fun (hc428ξ : ¬ (V 32 (2000 + w9ξ)) = p1ξ) => ?_) (fun (hc428ξ : ¬ (¬ (V 32 (2000 + w9ξ)) = p1ξ)) => ?_)
          · refine zp_iinc (L' := [(3, 0, ((w9ξ : Int) + 1)), (2, 0, (zc_wl (fun w => V 32 (2000 + w)) (fun w => V 52 (2000 + w)) (fun w => V 33 (2000 + w)) p1ξ w9ξ)), (0, 2, (A 1 : Int)), (1, 0, p1ξ)]) (n := ((w9ξ : Int) + 1)) (pc := 39) hx hb hnLξ (zd_X9_worksLeft (39, .iinc 3 1, 3, 0, []) (List.mem_of_getElem? (i := 22) rfl)) (j := 0) rfl (by omega) (zp_r0 (by omega) (by omega)) rfl rfl ?_
            refine zp_goto (tgt := 4) (pc := 42) hx hb (zd_X9_worksLeft (42, .goto (-38), 3, 0, []) (List.mem_of_getElem? (i := 23) rfl)) rfl ?_
            have ha9ξ : (zc_wl (fun w => V 32 (2000 + w)) (fun w => V 52 (2000 + w)) (fun w => V 33 (2000 + w)) p1ξ w9ξ) = (zc_wl (fun w => V 32 (2000 + w)) (fun w => V 52 (2000 + w)) (fun w => V 33 (2000 + w)) p1ξ (w9ξ + 1)) := by
              rw [zc_wl]
              by_cases c9ξ : V 32 (2000 + w9ξ) = p1ξ ∧ V 52 (2000 + w9ξ) < V 33 (2000 + w9ξ)
              · skip
                rw [if_pos c9ξ]
                all_goals omega
              · skip
                rw [if_neg c9ξ]
                all_goals omega
            rw [ha9ξ]
            refine zp_drop (L' := [(3, 0, ((w9ξ : Int) + 1)), (2, 0, (zc_wl (fun w => V 32 (2000 + w)) (fun w => V 52 (2000 + w)) (fun w => V 33 (2000 + w)) p1ξ (w9ξ + 1))), (0, 2, (A 1 : Int)), (1, 0, p1ξ)]) (by simp) ?_
            exact ih (w9ξ + 1) (by omega)
          · refine zp_load (pc := 28) hx hb (zd_X9_worksLeft (28, .aload_n 0, 1, 0, []) (List.mem_of_getElem? (i := 17) rfl)) rfl (j := 2) rfl ?_
            refine zp_load (pc := 29) hx hb (zd_X9_worksLeft (29, .iload_n 3, 1, 0, []) (List.mem_of_getElem? (i := 18) rfl)) rfl (j := 0) rfl ?_
            refine zp_call (pc := 30) (how := 0) (idx := 94) (mi := 25) (S := []) hx hb hEξ hwξ heffξ hrmξ (zX_isd1 hWξ A Y F M V) rfl (j := 1) rfl rfl (by decide +kernel) (zd_X9_worksLeft (30, .invokevirtual 94, 3, 0, []) (List.mem_of_getElem? (i := 19) rfl)) [(A 1 : Int), (w9ξ : Int)] rfl ⟨zp_o2 (zM_P hMξ (hYbξ _ (List.mem_of_getElem? (i := 1) rfl))), zp_o0 (by omega) (by omega) (by omega) (by omega), trivial⟩ (Nat.le_of_ble_eq_true rfl) ⟨hMξ, rfl, hYF0ξ, hVξ⟩ (fun al halξ rno429ξ Po429 Go429 hexto429ξ hfro429ξ hoko429ξ hcso429ξ hpsio429ξ => ?_)
            obtain rfl := List.mem_singleton.mp halξ
            have hro429ξ := zp_int (hoko429ξ _ rfl).1
            obtain ⟨hPeo429ξ, hGeo429ξ, hto429ξ⟩ := hpsio429ξ
            rw [hPeo429ξ, hGeo429ξ]
            clear hexto429ξ hfro429ξ hcso429ξ hPeo429ξ hGeo429ξ
            have hto429ξ : rno429ξ = 1 ↔ (0 ≤ (w9ξ : Int) ∧ (w9ξ : Int) < V 1 3 ∧ (w9ξ : Int) < 10) ∧ V 33 (2000 + ((w9ξ : Int)).toNat) ≤ V 52 (2000 + ((w9ξ : Int)).toNat) := hto429ξ
            rw [show ((w9ξ : Int) : Int).toNat = w9ξ by omega] at hto429ξ
            refine zp_if (pc := 33) (tgt := 39) hx hb (zd_X9_worksLeft (33, .ifCond .ne 6, 3, 0, []) (List.mem_of_getElem? (i := 20) rfl)) rfl (fun (hc430ξ : ¬ rno429ξ = 0) => ?_) (fun (hc430ξ : ¬ (¬ rno429ξ = 0)) => ?_)
            · refine zp_iinc (L' := [(3, 0, ((w9ξ : Int) + 1)), (2, 0, (zc_wl (fun w => V 32 (2000 + w)) (fun w => V 52 (2000 + w)) (fun w => V 33 (2000 + w)) p1ξ w9ξ)), (0, 2, (A 1 : Int)), (1, 0, p1ξ)]) (n := ((w9ξ : Int) + 1)) (pc := 39) hx hb hnLξ (zd_X9_worksLeft (39, .iinc 3 1, 3, 0, []) (List.mem_of_getElem? (i := 22) rfl)) (j := 0) rfl (by omega) (zp_r0 (by omega) (by omega)) rfl rfl ?_
              refine zp_goto (tgt := 4) (pc := 42) hx hb (zd_X9_worksLeft (42, .goto (-38), 3, 0, []) (List.mem_of_getElem? (i := 23) rfl)) rfl ?_
              have ha9ξ : (zc_wl (fun w => V 32 (2000 + w)) (fun w => V 52 (2000 + w)) (fun w => V 33 (2000 + w)) p1ξ w9ξ) = (zc_wl (fun w => V 32 (2000 + w)) (fun w => V 52 (2000 + w)) (fun w => V 33 (2000 + w)) p1ξ (w9ξ + 1)) := by
                rw [zc_wl]
                by_cases c9ξ : V 32 (2000 + w9ξ) = p1ξ ∧ V 52 (2000 + w9ξ) < V 33 (2000 + w9ξ)
                · skip
                  have c8 : ¬ rno429ξ = 1 := fun z => by have := ((Iff.mp hto429ξ) z).2; omega
                  rw [if_pos c9ξ]
                  all_goals omega
                · skip
                  by_cases c7 : V 33 (2000 + w9ξ) ≤ V 52 (2000 + w9ξ)
                  · have c6 := (Iff.mpr hto429ξ) ⟨by omega, c7⟩
                    rw [if_neg c9ξ]
                    all_goals omega
                  · rw [if_neg c9ξ]
                    all_goals omega
              rw [ha9ξ]
              refine zp_drop (L' := [(3, 0, ((w9ξ : Int) + 1)), (2, 0, (zc_wl (fun w => V 32 (2000 + w)) (fun w => V 52 (2000 + w)) (fun w => V 33 (2000 + w)) p1ξ (w9ξ + 1))), (0, 2, (A 1 : Int)), (1, 0, p1ξ)]) (by simp) ?_
              exact ih (w9ξ + 1) (by omega)
            · refine zp_iinc (L' := [(2, 0, ((zc_wl (fun w => V 32 (2000 + w)) (fun w => V 52 (2000 + w)) (fun w => V 33 (2000 + w)) p1ξ w9ξ) + 1)), (3, 0, (w9ξ : Int)), (0, 2, (A 1 : Int)), (1, 0, p1ξ)]) (n := ((zc_wl (fun w => V 32 (2000 + w)) (fun w => V 52 (2000 + w)) (fun w => V 33 (2000 + w)) p1ξ w9ξ) + 1)) (pc := 36) hx hb hnLξ (zd_X9_worksLeft (36, .iinc 2 1, 3, 0, []) (List.mem_of_getElem? (i := 21) rfl)) (j := 1) rfl (by omega) (zp_r0 (by omega) (by omega)) rfl rfl ?_
              refine zp_iinc (L' := [(3, 0, ((w9ξ : Int) + 1)), (2, 0, ((zc_wl (fun w => V 32 (2000 + w)) (fun w => V 52 (2000 + w)) (fun w => V 33 (2000 + w)) p1ξ w9ξ) + 1)), (0, 2, (A 1 : Int)), (1, 0, p1ξ)]) (n := ((w9ξ : Int) + 1)) (pc := 39) hx hb hnLξ (zd_X9_worksLeft (39, .iinc 3 1, 3, 0, []) (List.mem_of_getElem? (i := 22) rfl)) (j := 1) rfl (by omega) (zp_r0 (by omega) (by omega)) rfl rfl ?_
              refine zp_goto (tgt := 4) (pc := 42) hx hb (zd_X9_worksLeft (42, .goto (-38), 3, 0, []) (List.mem_of_getElem? (i := 23) rfl)) rfl ?_
              have ha9ξ : ((zc_wl (fun w => V 32 (2000 + w)) (fun w => V 52 (2000 + w)) (fun w => V 33 (2000 + w)) p1ξ w9ξ) + 1) = (zc_wl (fun w => V 32 (2000 + w)) (fun w => V 52 (2000 + w)) (fun w => V 33 (2000 + w)) p1ξ (w9ξ + 1)) := by
                rw [zc_wl]
                by_cases c9ξ : V 32 (2000 + w9ξ) = p1ξ ∧ V 52 (2000 + w9ξ) < V 33 (2000 + w9ξ)
                · skip
                  have c8 : ¬ rno429ξ = 1 := fun z => by have := ((Iff.mp hto429ξ) z).2; omega
                  rw [if_pos c9ξ]
                  all_goals omega
                · skip
                  by_cases c7 : V 33 (2000 + w9ξ) ≤ V 52 (2000 + w9ξ)
                  · have c6 := (Iff.mpr hto429ξ) ⟨by omega, c7⟩
                    rw [if_neg c9ξ]
                    all_goals omega
                  · rw [if_neg c9ξ]
                    all_goals omega
              rw [ha9ξ]
              refine zp_drop (L' := [(3, 0, ((w9ξ : Int) + 1)), (2, 0, (zc_wl (fun w => V 32 (2000 + w)) (fun w => V 52 (2000 + w)) (fun w => V 33 (2000 + w)) p1ξ (w9ξ + 1))), (0, 2, (A 1 : Int)), (1, 0, p1ξ)]) (by simp) ?_
              exact ih (w9ξ + 1) (by omega)
  refine zp_const (pc := 0) hx hb (zd_X9_worksLeft (0, .iconst 0, 1, 0, []) (List.mem_of_getElem? (i := 0) rfl)) rfl rfl ?_
  refine zp_store (L' := [(2, 0, 0), (0, 2, (A 1 : Int)), (1, 0, p1ξ)]) (pc := 1) hx hb hnLξ (zd_X9_worksLeft (1, .istore_n 2, 1, 0, []) (List.mem_of_getElem? (i := 1) rfl)) rfl rfl rfl ?_
  refine zp_const (pc := 2) hx hb (zd_X9_worksLeft (2, .iconst 0, 1, 0, []) (List.mem_of_getElem? (i := 2) rfl)) rfl rfl ?_
  refine zp_store (L' := [(3, 0, 0), (2, 0, 0), (0, 2, (A 1 : Int)), (1, 0, p1ξ)]) (pc := 3) hx hb hnLξ (zd_X9_worksLeft (3, .istore_n 3, 1, 0, []) (List.mem_of_getElem? (i := 3) rfl)) rfl rfl rfl ?_
  refine zp_drop (L' := [(3, 0, 0), (2, 0, 0), (0, 2, (A 1 : Int)), (1, 0, p1ξ)]) (by simp) ?_
  exact loop n1ξ 0 (by omega)
noncomputable def zf_ofcc (V : Nat → Nat → Int) (n1ξ : Nat) (p1ξ : Int) (p2ξ : Int) : Int × (Nat → Nat → Int) := if 0 ≤ p1ξ ∧ p1ξ < (V 1 1) ∧ p1ξ < 6 then if p2ξ = 0 then ((V 50 (2000 + p1ξ.toNat)), V) else if p2ξ = 1 then ((V 31 (2000 + p1ξ.toNat)), V) else if p2ξ = 2 then ((V 51 (2000 + p1ξ.toNat)), V) else if p2ξ = 3 then ((zc_wl (fun w => V 32 (2000 + w)) (fun w => V 52 (2000 + w)) (fun w => V 33 (2000 + w)) p1ξ n1ξ), V) else ((-1), V) else ((-1), V)
noncomputable def zK_ofcc : zk_K := (zt_mn 23, prog_1_method_5_code, 3, (Option.some Jvm.ClassFile.FieldType.int), 1, 11, [(2, 12, 0, 0), (0, 0, (-2147483648), 2147483647), (0, 0, (-2147483648), 2147483647)], [(some (0, 0, (-2147483648), 2147483647), [])], zUC, (4, 240, 0, 0))
noncomputable def zφ_ofcc (A : Nat → Nat) (Y : List (Nat × Nat)) (F : List (Nat × Nat × Nat)) (V : Nat → Nat → Int) (n1ξ : Nat) : (Nat → Option Nat) → (Nat → Nat → Int) → List Int → Prop := fun P G ps => zMVc A Y F V P G ∧ ps.getD 0 0 = (A 0 : Int) ∧ zMc Y F ∧ V 1 3 = (n1ξ : Int) ∧ n1ξ ≤ 10
noncomputable def zψ_ofcc (A : Nat → Nat) (Y : List (Nat × Nat)) (F : List (Nat × Nat × Nat)) (V : Nat → Nat → Int) (n1ξ : Nat) : (Nat → Option Nat) → (Nat → Nat → Int) → List Int → (Nat → Option Nat) → (Nat → Nat → Int) → Int → Prop := fun P G ps P' G' rn => P' = P ∧ zMVc A Y F (zf_ofcc V n1ξ (ps.getD 1 0) (ps.getD 2 0)).2 P' G' ∧ rn = (zf_ofcc V n1ξ (ps.getD 1 0) (ps.getD 2 0)).1
theorem zX_ofcc {l : Launch} {w : zk_W} (hWξ : zh_W w) (A : Nat → Nat) (Y : List (Nat × Nat)) (F : List (Nat × Nat × Nat)) (V : Nat → Nat → Int) (n1ξ : Nat) : zk_metX l w zt_dv zt_TB zK_ofcc (zp_A (zφ_ofcc A Y F V n1ξ)) (zp_B (zψ_ofcc A Y F V n1ξ)) ∧ zk_cok w zt_TB zK_ofcc := by
  refine zp_methX (cn := "WoundTown") zp_lkallW hWξ (pl := 639) rfl (by decide +kernel) (fun p e R s m args below meth c Q u hx hb hEξ hQξ hU5ξ heffξ hnLξ hokξ hφ => ?_)
  have hwξ := hWξ.1
  obtain ⟨p0ξ, p1ξ, p2ξ, hpsξ, tk0, tk1, tk2⟩ := zp_ps3 hokξ
  have hrmξ : zk_Kr (zk_ev (zt_types, zp_lkW, zt_dv, [], [], zp_lcW, zK_ofcc)) = zk_Kr zK_ofcc := rfl
  rw [hpsξ] at hφ ⊢
  have hφ : zMVc A Y F V u.1 (zp_n u.2.1) ∧ p0ξ = (A 0 : Int) ∧ zMc Y F ∧ V 1 3 = (n1ξ : Int) ∧ n1ξ ≤ 10 := hφ
  obtain ⟨⟨M, hMξ, hVξ, hSbξ⟩, rfl, hYFξ, hn1ξ, hn10ξ⟩ := hφ
  have hYF0ξ := hYFξ
  obtain ⟨hYbξ, hFbξ, hFxξ, -⟩ := hYFξ
  have hi1ξ := zp_int tk1
  have hi2ξ := zp_int tk2
  show zp_J p l e R s m args below meth c Q w u [] 0 [(0, 2, (A 0 : Int)), (1, 0, p1ξ), (2, 0, p2ξ)] [] u.1 (zp_n u.2.1)
  refine zp_load (pc := 0) hx hb (zd_X11_of (0, .aload_n 0, 1, 0, []) (List.mem_of_getElem? (i := 0) rfl)) rfl (j := 0) rfl ?_
  refine zp_getf (n := (A 1 : Int)) (pc := 1) hx hb hEξ hwξ (zd_X11_of (1, .getfield 10, 3, 0, []) (List.mem_of_getElem? (i := 1) rfl)) (j := 50) rfl rfl rfl (zM_P hMξ (hYbξ _ (List.mem_of_getElem? (i := 0) rfl))) ((zM_G hMξ (hYbξ _ (List.mem_of_getElem? (i := 0) rfl)) 0).trans (zM_F hMξ (hFbξ _ (List.mem_of_getElem? (i := 0) rfl)))) ?_
  refine zp_load (pc := 4) hx hb (zd_X11_of (4, .iload_n 1, 1, 0, []) (List.mem_of_getElem? (i := 2) rfl)) rfl (j := 1) rfl ?_
  refine zp_call (pc := 5) (how := 0) (idx := 131) (mi := 22) (S := []) hx hb hEξ hwξ heffξ hrmξ (zX_hpe1 hWξ A Y F M) rfl (j := 15) rfl rfl (by decide +kernel) (zd_X11_of (5, .invokevirtual 131, 3, 0, []) (List.mem_of_getElem? (i := 3) rfl)) [(A 1 : Int), p1ξ] rfl ⟨zp_o2 (zM_P hMξ (hYbξ _ (List.mem_of_getElem? (i := 1) rfl))), zp_o0 (by omega) (by omega) (by omega) (by omega), trivial⟩ (Nat.le_of_ble_eq_true rfl) ⟨hMξ, rfl, hYF0ξ⟩ (fun al halξ rni431ξ Pi431 Gi431 hexti431ξ hfri431ξ hoki431ξ hcsi431ξ hpsii431ξ => ?_)
  obtain rfl := List.mem_singleton.mp halξ
  have hri431ξ := zp_int (hoki431ξ _ rfl).1
  obtain ⟨hPei431ξ, hGei431ξ, hti431ξ⟩ := hpsii431ξ
  rw [hPei431ξ, hGei431ξ]
  clear hexti431ξ hfri431ξ hcsi431ξ hPei431ξ hGei431ξ
  have hti431ξ : rni431ξ = 1 ↔ 0 ≤ p1ξ ∧ p1ξ < (V 1 1) ∧ p1ξ < 6 := by
    have h9ξ : rni431ξ = 1 ↔ 0 ≤ p1ξ ∧ p1ξ < M 1 1 ∧ p1ξ < 6 := hti431ξ
    rw [(hVξ 1 1 (by decide))] at h9ξ
    exact h9ξ
  refine zp_if (pc := 8) (tgt := 13) hx hb (zd_X11_of (8, .ifCond .ne 5, 3, 0, []) (List.mem_of_getElem? (i := 4) rfl)) rfl (fun (hc432ξ : ¬ rni431ξ = 0) => ?_) (fun (hc432ξ : ¬ (¬ rni431ξ = 0)) => ?_)
  · have hbt433ξ := (Iff.mp hti431ξ) (by omega)
    refine zp_load (pc := 13) hx hb (zd_X11_of (13, .iload_n 2, 1, 0, []) (List.mem_of_getElem? (i := 7) rfl)) rfl (j := 2) rfl ?_
    by_cases hc435ξ : p2ξ = 0
    · refine zp_tin (tgt := 44) (off := 30) (pc := 14) hx hb (zd_X11_of (14, .tableswitch 75 0 3 #[30, 43, 53, 66], 30, 0, []) (List.mem_of_getElem? (i := 8) rfl)) (by rw [hc435ξ]; decide) (by rw [hc435ξ]; decide) (by rw [hc435ξ]; decide) rfl ?_
      refine zp_load (pc := 44) hx hb (zd_X11_of (44, .aload_n 0, 1, 0, []) (List.mem_of_getElem? (i := 9) rfl)) rfl (j := 0) rfl ?_
      refine zp_getf (n := (A 1 : Int)) (pc := 45) hx hb hEξ hwξ (zd_X11_of (45, .getfield 10, 3, 0, []) (List.mem_of_getElem? (i := 10) rfl)) (j := 50) rfl rfl rfl (zM_P hMξ (hYbξ _ (List.mem_of_getElem? (i := 0) rfl))) ((zM_G hMξ (hYbξ _ (List.mem_of_getElem? (i := 0) rfl)) 0).trans (zM_F hMξ (hFbξ _ (List.mem_of_getElem? (i := 0) rfl)))) ?_
      refine zp_getf (n := (A 2 : Int)) (pc := 48) hx hb hEξ hwξ (zd_X11_of (48, .getfield 135, 3, 0, []) (List.mem_of_getElem? (i := 11) rfl)) (j := 24) rfl rfl rfl (zM_P hMξ (hYbξ _ (List.mem_of_getElem? (i := 1) rfl))) ((zM_G hMξ (hYbξ _ (List.mem_of_getElem? (i := 1) rfl)) 18).trans (zM_F hMξ (hFbξ _ (List.mem_of_getElem? (i := 24) rfl)))) ?_
      refine zp_getf (n := (A 50 : Int)) (pc := 51) hx hb hEξ hwξ (zd_X11_of (51, .getfield 138, 3, 0, []) (List.mem_of_getElem? (i := 12) rfl)) (j := 2) rfl rfl rfl (zM_P hMξ (hYbξ _ (List.mem_of_getElem? (i := 2) rfl))) ((zM_G hMξ (hYbξ _ (List.mem_of_getElem? (i := 2) rfl)) 0).trans (zM_F hMξ (hFbξ _ (List.mem_of_getElem? (i := 25) rfl)))) ?_
      refine zp_load (pc := 54) hx hb (zd_X11_of (54, .iload_n 1, 1, 0, []) (List.mem_of_getElem? (i := 13) rfl)) rfl (j := 1) rfl ?_
      refine zp_iald (j := p1ξ.toNat) (v := (V 50 (2000 + p1ξ.toNat))) (pc := 55) hx hb hwξ (zd_X11_of (55, .iaload, 1, 0, []) (List.mem_of_getElem? (i := 14) rfl)) (show zp_ia 1 17 = some (6, 0, 0, (-2147483648), 2147483647) from rfl) (zM_P hMξ (hYbξ _ (List.mem_of_getElem? (i := 28) rfl))) (by omega) (by omega) ((zM_G hMξ (hYbξ _ (List.mem_of_getElem? (i := 28) rfl)) (2000 + p1ξ.toNat)).trans (hVξ 50 (2000 + p1ξ.toNat) (by decide))) (fun hk436ξ => ?_)
      have hk436bξ := zp_int hk436ξ
      clear hk436ξ
      refine zp_iret (pc := 56) (n := (V 50 (2000 + p1ξ.toNat))) hx hb hEξ hQξ hU5ξ rfl (by decide) (zd_X11_of (56, .ireturn, 1, 0, []) (List.mem_of_getElem? (i := 15) rfl)) (j := 0) rfl (zp_o0 (by omega) (by omega) (by omega) (by omega)) ?_
      rw [hpsξ]
      refine ⟨rfl, ?_⟩
      have hffξ : zf_ofcc V n1ξ p1ξ p2ξ = ((V 50 (2000 + p1ξ.toNat)), V) := by
        unfold zf_ofcc
        rw [if_pos ((Iff.mp hti431ξ) (by omega)), if_pos hc435ξ]
      show zMVc A Y F (zf_ofcc V n1ξ p1ξ p2ξ).2 u.1 (zp_n u.2.1) ∧ (V 50 (2000 + p1ξ.toNat)) = (zf_ofcc V n1ξ p1ξ p2ξ).1
      rw [hffξ]
      exact ⟨⟨M, hMξ, hVξ, trivial⟩, rfl⟩
    by_cases hc437ξ : p2ξ = 1
    · refine zp_tin (tgt := 57) (off := 43) (pc := 14) hx hb (zd_X11_of (14, .tableswitch 75 0 3 #[30, 43, 53, 66], 30, 0, []) (List.mem_of_getElem? (i := 8) rfl)) (by rw [hc437ξ]; decide) (by rw [hc437ξ]; decide) (by rw [hc437ξ]; decide) rfl ?_
      refine zp_load (pc := 57) hx hb (zd_X11_of (57, .aload_n 0, 1, 0, []) (List.mem_of_getElem? (i := 16) rfl)) rfl (j := 0) rfl ?_
      refine zp_getf (n := (A 1 : Int)) (pc := 58) hx hb hEξ hwξ (zd_X11_of (58, .getfield 10, 3, 0, []) (List.mem_of_getElem? (i := 17) rfl)) (j := 50) rfl rfl rfl (zM_P hMξ (hYbξ _ (List.mem_of_getElem? (i := 0) rfl))) ((zM_G hMξ (hYbξ _ (List.mem_of_getElem? (i := 0) rfl)) 0).trans (zM_F hMξ (hFbξ _ (List.mem_of_getElem? (i := 0) rfl)))) ?_
      refine zp_getf (n := (A 31 : Int)) (pc := 61) hx hb hEξ hwξ (zd_X11_of (61, .getfield 141, 3, 0, []) (List.mem_of_getElem? (i := 18) rfl)) (j := 11) rfl rfl rfl (zM_P hMξ (hYbξ _ (List.mem_of_getElem? (i := 1) rfl))) ((zM_G hMξ (hYbξ _ (List.mem_of_getElem? (i := 1) rfl)) 2).trans (zM_F hMξ (hFbξ _ (List.mem_of_getElem? (i := 14) rfl)))) ?_
      refine zp_load (pc := 64) hx hb (zd_X11_of (64, .iload_n 1, 1, 0, []) (List.mem_of_getElem? (i := 19) rfl)) rfl (j := 1) rfl ?_
      refine zp_iald (j := p1ξ.toNat) (v := (V 31 (2000 + p1ξ.toNat))) (pc := 65) hx hb hwξ (zd_X11_of (65, .iaload, 1, 0, []) (List.mem_of_getElem? (i := 20) rfl)) (show zp_ia 1 43 = some (6, 0, 0, (-2147483648), 2147483647) from rfl) (zM_P hMξ (hYbξ _ (List.mem_of_getElem? (i := 18) rfl))) (by omega) (by omega) ((zM_G hMξ (hYbξ _ (List.mem_of_getElem? (i := 18) rfl)) (2000 + p1ξ.toNat)).trans (hVξ 31 (2000 + p1ξ.toNat) (by decide))) (fun hk438ξ => ?_)
      have hk438bξ := zp_int hk438ξ
      clear hk438ξ
      refine zp_iret (pc := 66) (n := (V 31 (2000 + p1ξ.toNat))) hx hb hEξ hQξ hU5ξ rfl (by decide) (zd_X11_of (66, .ireturn, 1, 0, []) (List.mem_of_getElem? (i := 21) rfl)) (j := 0) rfl (zp_o0 (by omega) (by omega) (by omega) (by omega)) ?_
      rw [hpsξ]
      refine ⟨rfl, ?_⟩
      have hffξ : zf_ofcc V n1ξ p1ξ p2ξ = ((V 31 (2000 + p1ξ.toNat)), V) := by
        unfold zf_ofcc
        rw [if_pos ((Iff.mp hti431ξ) (by omega)), if_neg hc435ξ, if_pos hc437ξ]
      show zMVc A Y F (zf_ofcc V n1ξ p1ξ p2ξ).2 u.1 (zp_n u.2.1) ∧ (V 31 (2000 + p1ξ.toNat)) = (zf_ofcc V n1ξ p1ξ p2ξ).1
      rw [hffξ]
      exact ⟨⟨M, hMξ, hVξ, trivial⟩, rfl⟩
    by_cases hc439ξ : p2ξ = 2
    · refine zp_tin (tgt := 67) (off := 53) (pc := 14) hx hb (zd_X11_of (14, .tableswitch 75 0 3 #[30, 43, 53, 66], 30, 0, []) (List.mem_of_getElem? (i := 8) rfl)) (by rw [hc439ξ]; decide) (by rw [hc439ξ]; decide) (by rw [hc439ξ]; decide) rfl ?_
      refine zp_load (pc := 67) hx hb (zd_X11_of (67, .aload_n 0, 1, 0, []) (List.mem_of_getElem? (i := 22) rfl)) rfl (j := 0) rfl ?_
      refine zp_getf (n := (A 1 : Int)) (pc := 68) hx hb hEξ hwξ (zd_X11_of (68, .getfield 10, 3, 0, []) (List.mem_of_getElem? (i := 23) rfl)) (j := 50) rfl rfl rfl (zM_P hMξ (hYbξ _ (List.mem_of_getElem? (i := 0) rfl))) ((zM_G hMξ (hYbξ _ (List.mem_of_getElem? (i := 0) rfl)) 0).trans (zM_F hMξ (hFbξ _ (List.mem_of_getElem? (i := 0) rfl)))) ?_
      refine zp_getf (n := (A 2 : Int)) (pc := 71) hx hb hEξ hwξ (zd_X11_of (71, .getfield 135, 3, 0, []) (List.mem_of_getElem? (i := 24) rfl)) (j := 24) rfl rfl rfl (zM_P hMξ (hYbξ _ (List.mem_of_getElem? (i := 1) rfl))) ((zM_G hMξ (hYbξ _ (List.mem_of_getElem? (i := 1) rfl)) 18).trans (zM_F hMξ (hFbξ _ (List.mem_of_getElem? (i := 24) rfl)))) ?_
      refine zp_getf (n := (A 51 : Int)) (pc := 74) hx hb hEξ hwξ (zd_X11_of (74, .getfield 144, 3, 0, []) (List.mem_of_getElem? (i := 25) rfl)) (j := 3) rfl rfl rfl (zM_P hMξ (hYbξ _ (List.mem_of_getElem? (i := 2) rfl))) ((zM_G hMξ (hYbξ _ (List.mem_of_getElem? (i := 2) rfl)) 1).trans (zM_F hMξ (hFbξ _ (List.mem_of_getElem? (i := 26) rfl)))) ?_
      refine zp_load (pc := 77) hx hb (zd_X11_of (77, .iload_n 1, 1, 0, []) (List.mem_of_getElem? (i := 26) rfl)) rfl (j := 1) rfl ?_
      refine zp_iald (j := p1ξ.toNat) (v := (V 51 (2000 + p1ξ.toNat))) (pc := 78) hx hb hwξ (zd_X11_of (78, .iaload, 1, 0, []) (List.mem_of_getElem? (i := 27) rfl)) (show zp_ia 1 18 = some (6, 0, 0, 0, 45) from rfl) (zM_P hMξ (hYbξ _ (List.mem_of_getElem? (i := 29) rfl))) (by omega) (by omega) ((zM_G hMξ (hYbξ _ (List.mem_of_getElem? (i := 29) rfl)) (2000 + p1ξ.toNat)).trans (hVξ 51 (2000 + p1ξ.toNat) (by decide))) (fun hk440ξ => ?_)
      have hk440bξ := zp_int hk440ξ
      clear hk440ξ
      refine zp_iret (pc := 79) (n := (V 51 (2000 + p1ξ.toNat))) hx hb hEξ hQξ hU5ξ rfl (by decide) (zd_X11_of (79, .ireturn, 1, 0, []) (List.mem_of_getElem? (i := 28) rfl)) (j := 0) rfl (zp_o0 (by omega) (by omega) (by omega) (by omega)) ?_
      rw [hpsξ]
      refine ⟨rfl, ?_⟩
      have hffξ : zf_ofcc V n1ξ p1ξ p2ξ = ((V 51 (2000 + p1ξ.toNat)), V) := by
        unfold zf_ofcc
        rw [if_pos ((Iff.mp hti431ξ) (by omega)), if_neg hc435ξ, if_neg hc437ξ, if_pos hc439ξ]
      show zMVc A Y F (zf_ofcc V n1ξ p1ξ p2ξ).2 u.1 (zp_n u.2.1) ∧ (V 51 (2000 + p1ξ.toNat)) = (zf_ofcc V n1ξ p1ξ p2ξ).1
      rw [hffξ]
      exact ⟨⟨M, hMξ, hVξ, trivial⟩, rfl⟩
    by_cases hc441ξ : p2ξ = 3
    · refine zp_tin (tgt := 80) (off := 66) (pc := 14) hx hb (zd_X11_of (14, .tableswitch 75 0 3 #[30, 43, 53, 66], 30, 0, []) (List.mem_of_getElem? (i := 8) rfl)) (by rw [hc441ξ]; decide) (by rw [hc441ξ]; decide) (by rw [hc441ξ]; decide) rfl ?_
      refine zp_load (pc := 80) hx hb (zd_X11_of (80, .aload_n 0, 1, 0, []) (List.mem_of_getElem? (i := 29) rfl)) rfl (j := 0) rfl ?_
      refine zp_getf (n := (A 1 : Int)) (pc := 81) hx hb hEξ hwξ (zd_X11_of (81, .getfield 10, 3, 0, []) (List.mem_of_getElem? (i := 30) rfl)) (j := 50) rfl rfl rfl (zM_P hMξ (hYbξ _ (List.mem_of_getElem? (i := 0) rfl))) ((zM_G hMξ (hYbξ _ (List.mem_of_getElem? (i := 0) rfl)) 0).trans (zM_F hMξ (hFbξ _ (List.mem_of_getElem? (i := 0) rfl)))) ?_
      refine zp_load (pc := 84) hx hb (zd_X11_of (84, .iload_n 1, 1, 0, []) (List.mem_of_getElem? (i := 31) rfl)) rfl (j := 1) rfl ?_
      refine zp_call (pc := 85) (how := 0) (idx := 147) (mi := 24) (S := []) hx hb hEξ hwξ heffξ hrmξ (zX_wkl1 hWξ A Y F M V n1ξ) rfl (j := 16) rfl rfl (by decide +kernel) (zd_X11_of (85, .invokevirtual 147, 3, 0, []) (List.mem_of_getElem? (i := 32) rfl)) [(A 1 : Int), p1ξ] rfl ⟨zp_o2 (zM_P hMξ (hYbξ _ (List.mem_of_getElem? (i := 1) rfl))), zp_o0 (by omega) (by omega) (by omega) (by omega), trivial⟩ (Nat.le_of_ble_eq_true rfl) ⟨hMξ, rfl, hYF0ξ, hVξ, hn1ξ, hn10ξ⟩ (fun al halξ rnk442ξ Pk442 Gk442 hextk442ξ hfrk442ξ hokk442ξ hcsk442ξ hpsik442ξ => ?_)
      obtain rfl := List.mem_singleton.mp halξ
      have hrk442ξ := zp_int (hokk442ξ _ rfl).1
      obtain ⟨hPek442ξ, hGek442ξ, htk442ξ⟩ := hpsik442ξ
      rw [hPek442ξ, hGek442ξ]
      clear hextk442ξ hfrk442ξ hcsk442ξ hPek442ξ hGek442ξ
      have htk442ξ : rnk442ξ = (zc_wl (fun w => V 32 (2000 + w)) (fun w => V 52 (2000 + w)) (fun w => V 33 (2000 + w)) p1ξ n1ξ) := htk442ξ
      have htk442ξ := (Eq.symm htk442ξ)
      subst htk442ξ
      have hwbk442ξ := zc_wlb (ow := (fun w => V 32 (2000 + w))) (dn := (fun w => V 52 (2000 + w))) (mi := (fun w => V 33 (2000 + w))) (p := p1ξ) (w := n1ξ)
      refine zp_iret (pc := 88) (n := (zc_wl (fun w => V 32 (2000 + w)) (fun w => V 52 (2000 + w)) (fun w => V 33 (2000 + w)) p1ξ n1ξ)) hx hb hEξ hQξ hU5ξ rfl (by decide) (zd_X11_of (88, .ireturn, 1, 0, []) (List.mem_of_getElem? (i := 33) rfl)) (j := 0) rfl (zp_o0 (by omega) (by omega) (by omega) (by omega)) ?_
      rw [hpsξ]
      refine ⟨rfl, ?_⟩
      have hffξ : zf_ofcc V n1ξ p1ξ p2ξ = ((zc_wl (fun w => V 32 (2000 + w)) (fun w => V 52 (2000 + w)) (fun w => V 33 (2000 + w)) p1ξ n1ξ), V) := by
        unfold zf_ofcc
        rw [if_pos ((Iff.mp hti431ξ) (by omega)), if_neg hc435ξ, if_neg hc437ξ, if_neg hc439ξ, if_pos hc441ξ]
      show zMVc A Y F (zf_ofcc V n1ξ p1ξ p2ξ).2 u.1 (zp_n u.2.1) ∧ (zc_wl (fun w => V 32 (2000 + w)) (fun w => V 52 (2000 + w)) (fun w => V 33 (2000 + w)) p1ξ n1ξ) = (zf_ofcc V n1ξ p1ξ p2ξ).1
      rw [hffξ]
      exact ⟨⟨M, hMξ, hVξ, trivial⟩, rfl⟩
    refine zp_tout (tgt := 89) (pc := 14) hx hb (zd_X11_of (14, .tableswitch 75 0 3 #[30, 43, 53, 66], 30, 0, []) (List.mem_of_getElem? (i := 8) rfl)) (by omega) rfl ?_
    refine zp_const (pc := 89) hx hb (zd_X11_of (89, .iconst (-1), 1, 0, []) (List.mem_of_getElem? (i := 34) rfl)) rfl rfl ?_
    refine zp_iret (pc := 90) (n := (-1)) hx hb hEξ hQξ hU5ξ rfl (by decide) (zd_X11_of (90, .ireturn, 1, 0, []) (List.mem_of_getElem? (i := 35) rfl)) (j := 0) rfl (zp_o0 (by omega) (by omega) (by omega) (by omega)) ?_
    rw [hpsξ]
    refine ⟨rfl, ?_⟩
    have hffξ : zf_ofcc V n1ξ p1ξ p2ξ = ((-1), V) := by
      unfold zf_ofcc
      rw [if_pos ((Iff.mp hti431ξ) (by omega)), if_neg hc435ξ, if_neg hc437ξ, if_neg hc439ξ, if_neg hc441ξ]
    show zMVc A Y F (zf_ofcc V n1ξ p1ξ p2ξ).2 u.1 (zp_n u.2.1) ∧ (-1) = (zf_ofcc V n1ξ p1ξ p2ξ).1
    rw [hffξ]
    exact ⟨⟨M, hMξ, hVξ, trivial⟩, rfl⟩
  · have hbf434ξ : ¬ (0 ≤ p1ξ ∧ p1ξ < (V 1 1) ∧ p1ξ < 6) := fun h9ξ => absurd ((Iff.mpr hti431ξ) h9ξ) (by omega)
    refine zp_const (pc := 11) hx hb (zd_X11_of (11, .iconst (-1), 1, 0, []) (List.mem_of_getElem? (i := 5) rfl)) rfl rfl ?_
    refine zp_iret (pc := 12) (n := (-1)) hx hb hEξ hQξ hU5ξ rfl (by decide) (zd_X11_of (12, .ireturn, 1, 0, []) (List.mem_of_getElem? (i := 6) rfl)) (j := 0) rfl (zp_o0 (by omega) (by omega) (by omega) (by omega)) ?_
    rw [hpsξ]
    refine ⟨rfl, ?_⟩
    have hffξ : zf_ofcc V n1ξ p1ξ p2ξ = ((-1), V) := by
      unfold zf_ofcc
      rw [if_neg (fun h9ξ => absurd ((Iff.mpr hti431ξ) h9ξ) (by omega))]
    show zMVc A Y F (zf_ofcc V n1ξ p1ξ p2ξ).2 u.1 (zp_n u.2.1) ∧ (-1) = (zf_ofcc V n1ξ p1ξ p2ξ).1
    rw [hffξ]
    exact ⟨⟨M, hMξ, hVξ, trivial⟩, rfl⟩