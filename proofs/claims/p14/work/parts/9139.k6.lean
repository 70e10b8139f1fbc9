/-! part k6: the class over logical cells: row -/
noncomputable def zf_bya (V : Nat → Nat → Int) (p1ξ : Int) : Int × (Nat → Nat → Int) := if p1ξ < 0 then ((-1), V) else if (V 11 1) ≤ p1ξ then ((-1), V) else ((V 71 (2000 + p1ξ.toNat)), V)
noncomputable def zK_byq : zk_K := (zt_mn 37, prog_9_method_4_code, 2, (Option.some Jvm.ClassFile.FieldType.int), 1, 7, [(2, 7, 0, 0), (0, 0, (-2147483648), 2147483647)], [(some (0, 0, (-2147483648), 2147483647), [])], zUC, (0, 0, 0, 0))
noncomputable def zφ_byq (A : Nat → Nat) (Y : List (Nat × Nat)) (F : List (Nat × Nat × Nat)) (V : Nat → Nat → Int) : (Nat → Option Nat) → (Nat → Nat → Int) → List Int → Prop := fun P G ps => zMVc A Y F V P G ∧ ps.getD 0 0 = (A 11 : Int) ∧ zMc Y F
noncomputable def zψ_byq (A : Nat → Nat) (Y : List (Nat × Nat)) (F : List (Nat × Nat × Nat)) (V : Nat → Nat → Int) : (Nat → Option Nat) → (Nat → Nat → Int) → List Int → (Nat → Option Nat) → (Nat → Nat → Int) → Int → Prop := fun P G ps P' G' rn => P' = P ∧ zMVc A Y F (zf_bya V (ps.getD 1 0)).2 P' G' ∧ rn = (zf_bya V (ps.getD 1 0)).1
theorem zX_byq {l : Launch} {w : zk_W} (hWξ : zh_W w) (A : Nat → Nat) (Y : List (Nat × Nat)) (F : List (Nat × Nat × Nat)) (V : Nat → Nat → Int) : zk_metX l w zt_dv zt_TB zK_byq (zp_A (zφ_byq A Y F V)) (zp_B (zψ_byq A Y F V)) ∧ zk_cok w zt_TB zK_byq := by
  refine zp_methX (cn := "WoundTown$Tape") zp_lkallT hWξ (pl := 696) rfl (by decide +kernel) (fun p e R s m args below meth c Q u hx hb hEξ hQξ hU5ξ heffξ hnLξ hokξ hφ => ?_)
  have hwξ := hWξ.1
  obtain ⟨p0ξ, p1ξ, hpsξ, tk0, tk1⟩ := zp_ps2 hokξ
  have hrmξ : zk_Kr (zk_ev (zt_types, zp_lkT, zt_dv, [], [], zp_lcT, zK_byq)) = zk_Kr zK_byq := rfl
  rw [hpsξ] at hφ ⊢
  have hφ : zMVc A Y F V u.1 (zp_n u.2.1) ∧ p0ξ = (A 11 : Int) ∧ zMc Y F := hφ
  obtain ⟨⟨M, hMξ, hVξ, hSbξ⟩, rfl, hYFξ⟩ := hφ
  have hYF0ξ := hYFξ
  obtain ⟨hYbξ, hFbξ, hFxξ, -⟩ := hYFξ
  have hi1ξ := zp_int tk1
  show zp_J p l e R s m args below meth c Q w u [] 0 [(0, 2, (A 11 : Int)), (1, 0, p1ξ)] [] u.1 (zp_n u.2.1)
  refine zp_load (pc := 0) hx hb (zd_X7_byteAt (0, .iload_n 1, 1, 0, []) (List.mem_of_getElem? (i := 0) rfl)) rfl (j := 1) rfl ?_
  refine zp_if (pc := 1) (tgt := 28) hx hb (zd_X7_byteAt (1, .ifCond .lt 27, 3, 0, []) (List.mem_of_getElem? (i := 1) rfl)) rfl (fun (hc417ξ : p1ξ < 0) => ?_) (fun (hc417ξ : ¬ (p1ξ < 0)) => ?_)
  · refine zp_const (pc := 28) hx hb (zd_X7_byteAt (28, .iconst (-1), 1, 0, []) (List.mem_of_getElem? (i := 14) rfl)) rfl rfl ?_
    refine zp_iret (pc := 29) (n := (-1)) hx hb hEξ hQξ hU5ξ rfl (by decide) (zd_X7_byteAt (29, .ireturn, 1, 0, []) (List.mem_of_getElem? (i := 15) rfl)) (j := 0) rfl (zp_o0 (by omega) (by omega) (by omega) (by omega)) ?_
    rw [hpsξ]
    refine ⟨rfl, ?_⟩
    have hffξ : zf_bya V p1ξ = ((-1), V) := by
      unfold zf_bya
      rw [if_pos hc417ξ]
    show zMVc A Y F (zf_bya V p1ξ).2 u.1 (zp_n u.2.1) ∧ (-1) = (zf_bya V p1ξ).1
    rw [hffξ]
    exact ⟨⟨M, hMξ, hVξ, trivial⟩, rfl⟩
  · refine zp_load (pc := 4) hx hb (zd_X7_byteAt (4, .iload_n 1, 1, 0, []) (List.mem_of_getElem? (i := 2) rfl)) rfl (j := 1) rfl ?_
    refine zp_load (pc := 5) hx hb (zd_X7_byteAt (5, .aload_n 0, 1, 0, []) (List.mem_of_getElem? (i := 3) rfl)) rfl (j := 0) rfl ?_
    refine zp_getf (n := (V 11 1)) (pc := 6) hx hb hEξ hwξ (zd_X7_byteAt (6, .getfield 15, 3, 0, []) (List.mem_of_getElem? (i := 4) rfl)) (j := 2) rfl rfl rfl (zM_P hMξ (hYbξ _ (List.mem_of_getElem? (i := 11) rfl))) ((zM_G hMξ (hYbξ _ (List.mem_of_getElem? (i := 11) rfl)) 1).trans (hVξ 11 1 (by decide))) ?_
    refine zp_kn (k := 1) (a := (A 11)) hwξ (show zp_fd 7 1 = some (7, 0, 0, 0, 400) from rfl) rfl (zM_P hMξ (hYbξ _ (List.mem_of_getElem? (i := 11) rfl))) (fun hf418ξ => ?_)
    have hf418bξ := zp_int hf418ξ
    rw [((zM_G hMξ (hYbξ _ (List.mem_of_getElem? (i := 11) rfl)) 1).trans (hVξ 11 1 (by decide)))] at hf418bξ
    clear hf418ξ
    refine zp_icmp (pc := 9) (tgt := 28) hx hb (zd_X7_byteAt (9, .if_icmp .ge 19, 3, 0, []) (List.mem_of_getElem? (i := 5) rfl)) rfl (fun (hc419ξ : (V 11 1) ≤ p1ξ) => ?_) (fun (hc419ξ : ¬ ((V 11 1) ≤ p1ξ)) => ?_)
    · refine zp_const (pc := 28) hx hb (zd_X7_byteAt (28, .iconst (-1), 1, 0, []) (List.mem_of_getElem? (i := 14) rfl)) rfl rfl ?_
      refine zp_iret (pc := 29) (n := (-1)) hx hb hEξ hQξ hU5ξ rfl (by decide) (zd_X7_byteAt (29, .ireturn, 1, 0, []) (List.mem_of_getElem? (i := 15) rfl)) (j := 0) rfl (zp_o0 (by omega) (by omega) (by omega) (by omega)) ?_
      rw [hpsξ]
      refine ⟨rfl, ?_⟩
      have hffξ : zf_bya V p1ξ = ((-1), V) := by
        unfold zf_bya
        rw [if_neg hc417ξ, if_pos hc419ξ]
      show zMVc A Y F (zf_bya V p1ξ).2 u.1 (zp_n u.2.1) ∧ (-1) = (zf_bya V p1ξ).1
      rw [hffξ]
      exact ⟨⟨M, hMξ, hVξ, trivial⟩, rfl⟩
    · refine zp_load (pc := 12) hx hb (zd_X7_byteAt (12, .iload_n 1, 1, 0, []) (List.mem_of_getElem? (i := 6) rfl)) rfl (j := 1) rfl ?_
      refine zp_const (pc := 13) hx hb (zd_X7_byteAt (13, .sipush 400, 3, 0, []) (List.mem_of_getElem? (i := 7) rfl)) rfl rfl ?_
      refine zp_icmp (pc := 16) (tgt := 28) hx hb (zd_X7_byteAt (16, .if_icmp .ge 12, 3, 0, []) (List.mem_of_getElem? (i := 8) rfl)) rfl (fun (hc420ξ : 400 ≤ p1ξ) => ?_) (fun (hc420ξ : ¬ (400 ≤ p1ξ)) => ?_)
      · exfalso
        omega
      · refine zp_load (pc := 19) hx hb (zd_X7_byteAt (19, .aload_n 0, 1, 0, []) (List.mem_of_getElem? (i := 9) rfl)) rfl (j := 0) rfl ?_
        refine zp_getf (n := (A 71 : Int)) (pc := 20) hx hb hEξ hwξ (zd_X7_byteAt (20, .getfield 11, 3, 0, []) (List.mem_of_getElem? (i := 10) rfl)) (j := 1) rfl rfl rfl (zM_P hMξ (hYbξ _ (List.mem_of_getElem? (i := 11) rfl))) ((zM_G hMξ (hYbξ _ (List.mem_of_getElem? (i := 11) rfl)) 0).trans (zM_F hMξ (hFbξ _ (List.mem_of_getElem? (i := 48) rfl)))) ?_
        refine zp_load (pc := 23) hx hb (zd_X7_byteAt (23, .iload_n 1, 1, 0, []) (List.mem_of_getElem? (i := 11) rfl)) rfl (j := 1) rfl ?_
        refine zp_iald (j := p1ξ.toNat) (v := (V 71 (2000 + p1ξ.toNat))) (pc := 24) hx hb hwξ (zd_X7_byteAt (24, .iaload, 1, 0, []) (List.mem_of_getElem? (i := 12) rfl)) (show zp_ia 1 29 = some (400, 0, 0, (-2147483648), 2147483647) from rfl) (zM_P hMξ (hYbξ _ (List.mem_of_getElem? (i := 49) rfl))) (by omega) (by omega) ((zM_G hMξ (hYbξ _ (List.mem_of_getElem? (i := 49) rfl)) (2000 + p1ξ.toNat)).trans (hVξ 71 (2000 + p1ξ.toNat) (by decide))) (fun hk421ξ => ?_)
        have hk421bξ := zp_int hk421ξ
        clear hk421ξ
        refine zp_goto (tgt := 29) (pc := 25) hx hb (zd_X7_byteAt (25, .goto 4, 3, 0, []) (List.mem_of_getElem? (i := 13) rfl)) rfl ?_
        refine zp_iret (pc := 29) (n := (V 71 (2000 + p1ξ.toNat))) hx hb hEξ hQξ hU5ξ rfl (by decide) (zd_X7_byteAt (29, .ireturn, 1, 0, []) (List.mem_of_getElem? (i := 15) rfl)) (j := 0) rfl (zp_o0 (by omega) (by omega) (by omega) (by omega)) ?_
        rw [hpsξ]
        refine ⟨rfl, ?_⟩
        have hffξ : zf_bya V p1ξ = ((V 71 (2000 + p1ξ.toNat)), V) := by
          unfold zf_bya
          rw [if_neg hc417ξ, if_neg hc419ξ]
        show zMVc A Y F (zf_bya V p1ξ).2 u.1 (zp_n u.2.1) ∧ (V 71 (2000 + p1ξ.toNat)) = (zf_bya V p1ξ).1
        rw [hffξ]
        exact ⟨⟨M, hMξ, hVξ, trivial⟩, rfl⟩
theorem zf_bya_f {V : Nat → Nat → Int} {p1ξ : Int} {o k : Nat} (h9ξ : o ∉ ([] : List Nat)) : (zf_bya V p1ξ).2 o k = V o k := by
  unfold zf_bya
  by_cases hd2ξ : p1ξ < 0
  · rw [if_pos hd2ξ]
  · rw [if_neg hd2ξ]
    by_cases hd4ξ : (V 11 1) ≤ p1ξ
    · rw [if_pos hd4ξ]
    · rw [if_neg hd4ξ]
noncomputable def zf_awr (V : Nat → Nat → Int) (p1ξ : Int) : Int × (Nat → Nat → Int) := if 0 ≤ ((zf_bya V p1ξ).1) ∧ ((zf_bya V p1ξ).1) < (V 1 1) ∧ ((zf_bya V p1ξ).1) < 6 then if ((zf_bya (zf_bya V p1ξ).2 (p1ξ + 1)).1) < 1 then (0, (zf_bya (zf_bya (zf_bya (zf_bya V p1ξ).2 (p1ξ + 1)).2 (p1ξ + 2)).2 (p1ξ + 3)).2) else if 0 ≤ ((zf_bya (zf_bya (zf_bya V p1ξ).2 (p1ξ + 1)).2 (p1ξ + 2)).1) ∧ ((zf_bya (zf_bya (zf_bya V p1ξ).2 (p1ξ + 1)).2 (p1ξ + 2)).1) ≤ 23 then if 1 ≤ ((zf_bya (zf_bya (zf_bya (zf_bya V p1ξ).2 (p1ξ + 1)).2 (p1ξ + 2)).2 (p1ξ + 3)).1) ∧ ((zf_bya (zf_bya (zf_bya (zf_bya V p1ξ).2 (p1ξ + 1)).2 (p1ξ + 2)).2 (p1ξ + 3)).1) ≤ 99 then if (V 1 3) < 10 then (1, (zf_adw1 (zf_bya (zf_bya (zf_bya (zf_bya V p1ξ).2 (p1ξ + 1)).2 (p1ξ + 2)).2 (p1ξ + 3)).2 ((zf_bya V p1ξ).1) ((zf_bya (zf_bya V p1ξ).2 (p1ξ + 1)).1) ((zf_bya (zf_bya (zf_bya V p1ξ).2 (p1ξ + 1)).2 (p1ξ + 2)).1) ((zf_bya (zf_bya (zf_bya (zf_bya V p1ξ).2 (p1ξ + 1)).2 (p1ξ + 2)).2 (p1ξ + 3)).1) (-1)).2) else (0, (zf_bya (zf_bya (zf_bya (zf_bya V p1ξ).2 (p1ξ + 1)).2 (p1ξ + 2)).2 (p1ξ + 3)).2) else (0, (zf_bya (zf_bya (zf_bya (zf_bya V p1ξ).2 (p1ξ + 1)).2 (p1ξ + 2)).2 (p1ξ + 3)).2) else (0, (zf_bya (zf_bya (zf_bya (zf_bya V p1ξ).2 (p1ξ + 1)).2 (p1ξ + 2)).2 (p1ξ + 3)).2) else (0, (zf_bya (zf_bya (zf_bya (zf_bya V p1ξ).2 (p1ξ + 1)).2 (p1ξ + 2)).2 (p1ξ + 3)).2)
noncomputable def zK_awq : zk_K := (zt_mn 36, prog_1_method_12_code, 6, (Option.some Jvm.ClassFile.FieldType.boolean), 1, 11, [(2, 12, 0, 0), (0, 0, (-2147483648), 2147483647)], [(some (0, 0, 0, 1), [])], zUC, (2, 120, 0, 0))
noncomputable def zφ_awq (A : Nat → Nat) (Y : List (Nat × Nat)) (F : List (Nat × Nat × Nat)) (V : Nat → Nat → Int) : (Nat → Option Nat) → (Nat → Nat → Int) → List Int → Prop := fun P G ps => zMVc A Y F V P G ∧ ps.getD 0 0 = (A 0 : Int) ∧ zMc Y F ∧ 0 ≤ (ps.getD 1 0) ∧ (ps.getD 1 0) ≤ 400
noncomputable def zψ_awq (A : Nat → Nat) (Y : List (Nat × Nat)) (F : List (Nat × Nat × Nat)) (V : Nat → Nat → Int) : (Nat → Option Nat) → (Nat → Nat → Int) → List Int → (Nat → Option Nat) → (Nat → Nat → Int) → Int → Prop := fun P G ps P' G' rn => P' = P ∧ zMVc A Y F (zf_awr V (ps.getD 1 0)).2 P' G' ∧ rn = (zf_awr V (ps.getD 1 0)).1
theorem zX_awq {l : Launch} {w : zk_W} (hWξ : zh_W w) (A : Nat → Nat) (Y : List (Nat × Nat)) (F : List (Nat × Nat × Nat)) (V : Nat → Nat → Int) : zk_metX l w zt_dv zt_TB zK_awq (zp_A (zφ_awq A Y F V)) (zp_B (zψ_awq A Y F V)) ∧ zk_cok w zt_TB zK_awq := by
  refine zp_methX (cn := "WoundTown") zp_lkallW hWξ (pl := 692) rfl (by decide +kernel) (fun p e R s m args below meth c Q u hx hb hEξ hQξ hU5ξ heffξ hnLξ hokξ hφ => ?_)
  have hwξ := hWξ.1
  obtain ⟨p0ξ, p1ξ, hpsξ, tk0, tk1⟩ := zp_ps2 hokξ
  have hrmξ : zk_Kr (zk_ev (zt_types, zp_lkW, zt_dv, [], [], zp_lcW, zK_awq)) = zk_Kr zK_awq := rfl
  rw [hpsξ] at hφ ⊢
  have hφ : zMVc A Y F V u.1 (zp_n u.2.1) ∧ p0ξ = (A 0 : Int) ∧ zMc Y F ∧ 0 ≤ p1ξ ∧ p1ξ ≤ 400 := hφ
  obtain ⟨⟨M, hMξ, hVξ, hSbξ⟩, rfl, hYFξ, hp0ξ, hp4ξ⟩ := hφ
  have hYF0ξ := hYFξ
  obtain ⟨hYbξ, hFbξ, hFxξ, -⟩ := hYFξ
  have hi1ξ := zp_int tk1
  show zp_J p l e R s m args below meth c Q w u [] 0 [(0, 2, (A 0 : Int)), (1, 0, p1ξ)] [] u.1 (zp_n u.2.1)
  refine zp_load (pc := 0) hx hb (zd_X11_addWorkOfRow (0, .aload_n 0, 1, 0, []) (List.mem_of_getElem? (i := 0) rfl)) rfl (j := 0) rfl ?_
  refine zp_getf (n := (A 11 : Int)) (pc := 1) hx hb hEξ hwξ (zd_X11_addWorkOfRow (1, .getfield 67, 3, 0, []) (List.mem_of_getElem? (i := 1) rfl)) (j := 58) rfl rfl rfl (zM_P hMξ (hYbξ _ (List.mem_of_getElem? (i := 0) rfl))) ((zM_G hMξ (hYbξ _ (List.mem_of_getElem? (i := 0) rfl)) 8).trans (zM_F hMξ (hFbξ _ (List.mem_of_getElem? (i := 6) rfl)))) ?_
  refine zp_load (pc := 4) hx hb (zd_X11_addWorkOfRow (4, .iload_n 1, 1, 0, []) (List.mem_of_getElem? (i := 2) rfl)) rfl (j := 1) rfl ?_
  refine zp_call (pc := 5) (how := 0) (idx := 202) (mi := 37) (S := []) hx hb hEξ hwξ heffξ hrmξ (zX_byq hWξ A Y F V) rfl (j := 22) rfl rfl (by decide +kernel) (zd_X11_addWorkOfRow (5, .invokevirtual 202, 3, 0, []) (List.mem_of_getElem? (i := 3) rfl)) [(A 11 : Int), p1ξ] rfl ⟨zp_o2 (zM_P hMξ (hYbξ _ (List.mem_of_getElem? (i := 11) rfl))), zp_o0 (by omega) (by omega) (by omega) (by omega), trivial⟩ (Nat.le_of_ble_eq_true rfl) ⟨⟨M, hMξ, hVξ, trivial⟩, rfl, hYF0ξ⟩ (fun al halξ rna422ξ Pa422 Ga422 hexta422ξ hfra422ξ hoka422ξ hcsa422ξ hpsia422ξ => ?_)
  obtain rfl := List.mem_singleton.mp halξ
  have hra422ξ := zp_int (hoka422ξ _ rfl).1
  obtain ⟨hPea422ξ, ⟨Ma422, hMa422ξ, hVa422ξ, hSba422ξ⟩, hta422ξ⟩ := hpsia422ξ
  subst hPea422ξ
  clear hexta422ξ hfra422ξ hcsa422ξ hoka422ξ
  have hVa422ξ : ∀ o k, zNc o → Ma422 o k = (zf_bya V p1ξ).2 o k := hVa422ξ
  have hta422ξ : rna422ξ = ((zf_bya V p1ξ).1) := hta422ξ
  have hta422ξ := (Eq.symm hta422ξ)
  subst hta422ξ
  refine zp_store (L' := [(2, 0, ((zf_bya V p1ξ).1)), (0, 2, (A 0 : Int)), (1, 0, p1ξ)]) (pc := 8) hx hb hnLξ (zd_X11_addWorkOfRow (8, .istore_n 2, 1, 0, []) (List.mem_of_getElem? (i := 4) rfl)) rfl rfl rfl ?_
  refine zp_load (pc := 9) hx hb (zd_X11_addWorkOfRow (9, .aload_n 0, 1, 0, []) (List.mem_of_getElem? (i := 5) rfl)) rfl (j := 1) rfl ?_
  refine zp_getf (n := (A 11 : Int)) (pc := 10) hx hb hEξ hwξ (zd_X11_addWorkOfRow (10, .getfield 67, 3, 0, []) (List.mem_of_getElem? (i := 6) rfl)) (j := 58) rfl rfl rfl (zM_P hMa422ξ (hYbξ _ (List.mem_of_getElem? (i := 0) rfl))) ((zM_G hMa422ξ (hYbξ _ (List.mem_of_getElem? (i := 0) rfl)) 8).trans (zM_F hMa422ξ (hFbξ _ (List.mem_of_getElem? (i := 6) rfl)))) ?_
  refine zp_load (pc := 13) hx hb (zd_X11_addWorkOfRow (13, .iload_n 1, 1, 0, []) (List.mem_of_getElem? (i := 7) rfl)) rfl (j := 2) rfl ?_
  refine zp_const (pc := 14) hx hb (zd_X11_addWorkOfRow (14, .iconst 1, 1, 0, []) (List.mem_of_getElem? (i := 8) rfl)) rfl rfl ?_
  refine zp_add (n := (p1ξ + 1)) (pc := 15) hx hb (zd_X11_addWorkOfRow (15, .iadd, 1, 0, []) (List.mem_of_getElem? (i := 9) rfl)) (by omega) (zp_r0 (by omega) (by omega)) ?_
  refine zp_call (pc := 16) (how := 0) (idx := 202) (mi := 37) (S := []) hx hb hEξ hwξ heffξ hrmξ (zX_byq hWξ A Y F (zf_bya V p1ξ).2) rfl (j := 22) rfl rfl (by decide +kernel) (zd_X11_addWorkOfRow (16, .invokevirtual 202, 3, 0, []) (List.mem_of_getElem? (i := 10) rfl)) [(A 11 : Int), (p1ξ + 1)] rfl ⟨zp_o2 (zM_P hMa422ξ (hYbξ _ (List.mem_of_getElem? (i := 11) rfl))), zp_o0 (by omega) (by omega) (by omega) (by omega), trivial⟩ (Nat.le_of_ble_eq_true rfl) ⟨⟨Ma422, hMa422ξ, hVa422ξ, trivial⟩, rfl, hYF0ξ⟩ (fun al halξ rna423ξ Pa423 Ga423 hexta423ξ hfra423ξ hoka423ξ hcsa423ξ hpsia423ξ => ?_)
  obtain rfl := List.mem_singleton.mp halξ
  have hra423ξ := zp_int (hoka423ξ _ rfl).1
  obtain ⟨hPea423ξ, ⟨Ma423, hMa423ξ, hVa423ξ, hSba423ξ⟩, hta423ξ⟩ := hpsia423ξ
  subst hPea423ξ
  clear hexta423ξ hfra423ξ hcsa423ξ hoka423ξ
  have hVa423ξ : ∀ o k, zNc o → Ma423 o k = (zf_bya (zf_bya V p1ξ).2 (p1ξ + 1)).2 o k := hVa423ξ
  have hta423ξ : rna423ξ = ((zf_bya (zf_bya V p1ξ).2 (p1ξ + 1)).1) := hta423ξ
  have hta423ξ := (Eq.symm hta423ξ)
  subst hta423ξ
  refine zp_store (L' := [(3, 0, ((zf_bya (zf_bya V p1ξ).2 (p1ξ + 1)).1)), (2, 0, ((zf_bya V p1ξ).1)), (0, 2, (A 0 : Int)), (1, 0, p1ξ)]) (pc := 19) hx hb hnLξ (zd_X11_addWorkOfRow (19, .istore_n 3, 1, 0, []) (List.mem_of_getElem? (i := 11) rfl)) rfl rfl rfl ?_
  refine zp_load (pc := 20) hx hb (zd_X11_addWorkOfRow (20, .aload_n 0, 1, 0, []) (List.mem_of_getElem? (i := 12) rfl)) rfl (j := 2) rfl ?_
  refine zp_getf (n := (A 11 : Int)) (pc := 21) hx hb hEξ hwξ (zd_X11_addWorkOfRow (21, .getfield 67, 3, 0, []) (List.mem_of_getElem? (i := 13) rfl)) (j := 58) rfl rfl rfl (zM_P hMa423ξ (hYbξ _ (List.mem_of_getElem? (i := 0) rfl))) ((zM_G hMa423ξ (hYbξ _ (List.mem_of_getElem? (i := 0) rfl)) 8).trans (zM_F hMa423ξ (hFbξ _ (List.mem_of_getElem? (i := 6) rfl)))) ?_
  refine zp_load (pc := 24) hx hb (zd_X11_addWorkOfRow (24, .iload_n 1, 1, 0, []) (List.mem_of_getElem? (i := 14) rfl)) rfl (j := 3) rfl ?_
  refine zp_const (pc := 25) hx hb (zd_X11_addWorkOfRow (25, .iconst 2, 1, 0, []) (List.mem_of_getElem? (i := 15) rfl)) rfl rfl ?_
  refine zp_add (n := (p1ξ + 2)) (pc := 26) hx hb (zd_X11_addWorkOfRow (26, .iadd, 1, 0, []) (List.mem_of_getElem? (i := 16) rfl)) (by omega) (zp_r0 (by omega) (by omega)) ?_
  refine zp_call (pc := 27) (how := 0) (idx := 202) (mi := 37) (S := []) hx hb hEξ hwξ heffξ hrmξ (zX_byq hWξ A Y F (zf_bya (zf_bya V p1ξ).2 (p1ξ + 1)).2) rfl (j := 22) rfl rfl (by decide +kernel) (zd_X11_addWorkOfRow (27, .invokevirtual 202, 3, 0, []) (List.mem_of_getElem? (i := 17) rfl)) [(A 11 : Int), (p1ξ + 2)] rfl ⟨zp_o2 (zM_P hMa423ξ (hYbξ _ (List.mem_of_getElem? (i := 11) rfl))), zp_o0 (by omega) (by omega) (by omega) (by omega), trivial⟩ (Nat.le_of_ble_eq_true rfl) ⟨⟨Ma423, hMa423ξ, hVa423ξ, trivial⟩, rfl, hYF0ξ⟩ (fun al halξ rna424ξ Pa424 Ga424 hexta424ξ hfra424ξ hoka424ξ hcsa424ξ hpsia424ξ => ?_)
  obtain rfl := List.mem_singleton.mp halξ
  have hra424ξ := zp_int (hoka424ξ _ rfl).1
  obtain ⟨hPea424ξ, ⟨Ma424, hMa424ξ, hVa424ξ, hSba424ξ⟩, hta424ξ⟩ := hpsia424ξ
  subst hPea424ξ
  clear hexta424ξ hfra424ξ hcsa424ξ hoka424ξ
  have hVa424ξ : ∀ o k, zNc o → Ma424 o k = (zf_bya (zf_bya (zf_bya V p1ξ).2 (p1ξ + 1)).2 (p1ξ + 2)).2 o k := hVa424ξ
  have hta424ξ : rna424ξ = ((zf_bya (zf_bya (zf_bya V p1ξ).2 (p1ξ + 1)).2 (p1ξ + 2)).1) := hta424ξ
  have hta424ξ := (Eq.symm hta424ξ)
  subst hta424ξ
  refine zp_store (L' := [(4, 0, ((zf_bya (zf_bya (zf_bya V p1ξ).2 (p1ξ + 1)).2 (p1ξ + 2)).1)), (3, 0, ((zf_bya (zf_bya V p1ξ).2 (p1ξ + 1)).1)), (2, 0, ((zf_bya V p1ξ).1)), (0, 2, (A 0 : Int)), (1, 0, p1ξ)]) (pc := 30) hx hb hnLξ (zd_X11_addWorkOfRow (30, .istore 4, 2, 0, []) (List.mem_of_getElem? (i := 18) rfl)) rfl rfl rfl ?_
  refine zp_load (pc := 32) hx hb (zd_X11_addWorkOfRow (32, .aload_n 0, 1, 0, []) (List.mem_of_getElem? (i := 19) rfl)) rfl (j := 3) rfl ?_
  refine zp_getf (n := (A 11 : Int)) (pc := 33) hx hb hEξ hwξ (zd_X11_addWorkOfRow (33, .getfield 67, 3, 0, []) (List.mem_of_getElem? (i := 20) rfl)) (j := 58) rfl rfl rfl (zM_P hMa424ξ (hYbξ _ (List.mem_of_getElem? (i := 0) rfl))) ((zM_G hMa424ξ (hYbξ _ (List.mem_of_getElem? (i := 0) rfl)) 8).trans (zM_F hMa424ξ (hFbξ _ (List.mem_of_getElem? (i := 6) rfl)))) ?_
  refine zp_load (pc := 36) hx hb (zd_X11_addWorkOfRow (36, .iload_n 1, 1, 0, []) (List.mem_of_getElem? (i := 21) rfl)) rfl (j := 4) rfl ?_
  refine zp_const (pc := 37) hx hb (zd_X11_addWorkOfRow (37, .iconst 3, 1, 0, []) (List.mem_of_getElem? (i := 22) rfl)) rfl rfl ?_
  refine zp_add (n := (p1ξ + 3)) (pc := 38) hx hb (zd_X11_addWorkOfRow (38, .iadd, 1, 0, []) (List.mem_of_getElem? (i := 23) rfl)) (by omega) (zp_r0 (by omega) (by omega)) ?_
  refine zp_call (pc := 39) (how := 0) (idx := 202) (mi := 37) (S := []) hx hb hEξ hwξ heffξ hrmξ (zX_byq hWξ A Y F (zf_bya (zf_bya (zf_bya V p1ξ).2 (p1ξ + 1)).2 (p1ξ + 2)).2) rfl (j := 22) rfl rfl (by decide +kernel) (zd_X11_addWorkOfRow (39, .invokevirtual 202, 3, 0, []) (List.mem_of_getElem? (i := 24) rfl)) [(A 11 : Int), (p1ξ + 3)] rfl ⟨zp_o2 (zM_P hMa424ξ (hYbξ _ (List.mem_of_getElem? (i := 11) rfl))), zp_o0 (by omega) (by omega) (by omega) (by omega), trivial⟩ (Nat.le_of_ble_eq_true rfl) ⟨⟨Ma424, hMa424ξ, hVa424ξ, trivial⟩, rfl, hYF0ξ⟩ (fun al halξ rna425ξ Pa425 Ga425 hexta425ξ hfra425ξ hoka425ξ hcsa425ξ hpsia425ξ => ?_)
  obtain rfl := List.mem_singleton.mp halξ
  have hra425ξ := zp_int (hoka425ξ _ rfl).1
  obtain ⟨hPea425ξ, ⟨Ma425, hMa425ξ, hVa425ξ, hSba425ξ⟩, hta425ξ⟩ := hpsia425ξ
  subst hPea425ξ
  clear hexta425ξ hfra425ξ hcsa425ξ hoka425ξ
  have hVa425ξ : ∀ o k, zNc o → Ma425 o k = (zf_bya (zf_bya (zf_bya (zf_bya V p1ξ).2 (p1ξ + 1)).2 (p1ξ + 2)).2 (p1ξ + 3)).2 o k := hVa425ξ
  have hta425ξ : rna425ξ = ((zf_bya (zf_bya (zf_bya (zf_bya V p1ξ).2 (p1ξ + 1)).2 (p1ξ + 2)).2 (p1ξ + 3)).1) := hta425ξ
  have hta425ξ := (Eq.symm hta425ξ)
  subst hta425ξ
  refine zp_store (L' := [(5, 0, ((zf_bya (zf_bya (zf_bya (zf_bya V p1ξ).2 (p1ξ + 1)).2 (p1ξ + 2)).2 (p1ξ + 3)).1)), (4, 0, ((zf_bya (zf_bya (zf_bya V p1ξ).2 (p1ξ + 1)).2 (p1ξ + 2)).1)), (3, 0, ((zf_bya (zf_bya V p1ξ).2 (p1ξ + 1)).1)), (2, 0, ((zf_bya V p1ξ).1)), (0, 2, (A 0 : Int)), (1, 0, p1ξ)]) (pc := 42) hx hb hnLξ (zd_X11_addWorkOfRow (42, .istore 5, 2, 0, []) (List.mem_of_getElem? (i := 25) rfl)) rfl rfl rfl ?_
  refine zp_load (pc := 44) hx hb (zd_X11_addWorkOfRow (44, .aload_n 0, 1, 0, []) (List.mem_of_getElem? (i := 26) rfl)) rfl (j := 4) rfl ?_
  refine zp_getf (n := (A 1 : Int)) (pc := 45) hx hb hEξ hwξ (zd_X11_addWorkOfRow (45, .getfield 10, 3, 0, []) (List.mem_of_getElem? (i := 27) rfl)) (j := 50) rfl rfl rfl (zM_P hMa425ξ (hYbξ _ (List.mem_of_getElem? (i := 0) rfl))) ((zM_G hMa425ξ (hYbξ _ (List.mem_of_getElem? (i := 0) rfl)) 0).trans (zM_F hMa425ξ (hFbξ _ (List.mem_of_getElem? (i := 0) rfl)))) ?_
  refine zp_load (pc := 48) hx hb (zd_X11_addWorkOfRow (48, .iload_n 2, 1, 0, []) (List.mem_of_getElem? (i := 28) rfl)) rfl (j := 3) rfl ?_
  refine zp_call (pc := 49) (how := 0) (idx := 131) (mi := 22) (S := []) hx hb hEξ hwξ heffξ hrmξ (zX_hpe1 hWξ A Y F Ma425) rfl (j := 15) rfl rfl (by decide +kernel) (zd_X11_addWorkOfRow (49, .invokevirtual 131, 3, 0, []) (List.mem_of_getElem? (i := 29) rfl)) [(A 1 : Int), ((zf_bya V p1ξ).1)] rfl ⟨zp_o2 (zM_P hMa425ξ (hYbξ _ (List.mem_of_getElem? (i := 1) rfl))), zp_o0 (by omega) (by omega) (by omega) (by omega), trivial⟩ (Nat.le_of_ble_eq_true rfl) ⟨hMa425ξ, rfl, hYF0ξ⟩ (fun al halξ rni426ξ Pi426 Gi426 hexti426ξ hfri426ξ hoki426ξ hcsi426ξ hpsii426ξ => ?_)
  obtain rfl := List.mem_singleton.mp halξ
  have hri426ξ := zp_int (hoki426ξ _ rfl).1
  obtain ⟨hPei426ξ, hGei426ξ, hti426ξ⟩ := hpsii426ξ
  rw [hPei426ξ, hGei426ξ]
  clear hexti426ξ hfri426ξ hcsi426ξ hPei426ξ hGei426ξ
  have hti426ξ : rni426ξ = 1 ↔ 0 ≤ ((zf_bya V p1ξ).1) ∧ ((zf_bya V p1ξ).1) < (V 1 1) ∧ ((zf_bya V p1ξ).1) < 6 := by
    have h9ξ : rni426ξ = 1 ↔ 0 ≤ ((zf_bya V p1ξ).1) ∧ ((zf_bya V p1ξ).1) < Ma425 1 1 ∧ ((zf_bya V p1ξ).1) < 6 := hti426ξ
    rw [((hVa425ξ 1 1 (by decide)).trans (Eq.trans (zf_bya_f (by decide)) (Eq.trans rfl (Eq.trans (zf_bya_f (by decide)) (Eq.trans rfl (Eq.trans (zf_bya_f (by decide)) (Eq.trans rfl (zf_bya_f (by decide)))))))))] at h9ξ
    exact h9ξ
  refine zp_if (pc := 52) (tgt := 94) hx hb (zd_X11_addWorkOfRow (52, .ifCond .eq 42, 3, 0, []) (List.mem_of_getElem? (i := 30) rfl)) rfl (fun (hc427ξ : rni426ξ = 0) => ?_) (fun (hc427ξ : ¬ (rni426ξ = 0)) => ?_)
  · have hbf428ξ : ¬ (0 ≤ ((zf_bya V p1ξ).1) ∧ ((zf_bya V p1ξ).1) < (V 1 1) ∧ ((zf_bya V p1ξ).1) < 6) := fun h9ξ => absurd ((Iff.mpr hti426ξ) h9ξ) (by omega)
    refine zp_const (pc := 94) hx hb (zd_X11_addWorkOfRow (94, .iconst 0, 1, 0, []) (List.mem_of_getElem? (i := 49) rfl)) rfl rfl ?_
    refine zp_zret (pc := 95) (n := 0) hx hb hEξ hQξ hU5ξ rfl (by decide) (zd_X11_addWorkOfRow (95, .ireturn, 1, 0, []) (List.mem_of_getElem? (i := 50) rfl)) (j := 0) rfl (zp_o0 (by omega) (by omega) (by omega) (by omega)) ?_
    rw [hpsξ]
    refine ⟨rfl, ?_⟩
    have hffξ : zf_awr V p1ξ = (0, (zf_bya (zf_bya (zf_bya (zf_bya V p1ξ).2 (p1ξ + 1)).2 (p1ξ + 2)).2 (p1ξ + 3)).2) := by
      unfold zf_awr
      rw [if_neg (fun h9ξ => absurd ((Iff.mpr hti426ξ) h9ξ) (by omega))]
    show zMVc A Y F (zf_awr V p1ξ).2 u.1 Ga425 ∧ 0 = (zf_awr V p1ξ).1
    rw [hffξ]
    exact ⟨⟨Ma425, hMa425ξ, hVa425ξ, trivial⟩, rfl⟩
  · have hbt429ξ := (Iff.mp hti426ξ) (by omega)
    refine zp_load (pc := 55) hx hb (zd_X11_addWorkOfRow (55, .iload_n 3, 1, 0, []) (List.mem_of_getElem? (i := 31) rfl)) rfl (j := 2) rfl ?_
    refine zp_const (pc := 56) hx hb (zd_X11_addWorkOfRow (56, .iconst 1, 1, 0, []) (List.mem_of_getElem? (i := 32) rfl)) rfl rfl ?_
    refine zp_icmp (pc := 57) (tgt := 94) hx hb (zd_X11_addWorkOfRow (57, .if_icmp .lt 37, 3, 0, []) (List.mem_of_getElem? (i := 33) rfl)) rfl (fun (hc430ξ : ((zf_bya (zf_bya V p1ξ).2 (p1ξ + 1)).1) < 1) => ?_) (fun (hc430ξ : ¬ (((zf_bya (zf_bya V p1ξ).2 (p1ξ + 1)).1) < 1)) => ?_)
    · refine zp_const (pc := 94) hx hb (zd_X11_addWorkOfRow (94, .iconst 0, 1, 0, []) (List.mem_of_getElem? (i := 49) rfl)) rfl rfl ?_
      refine zp_zret (pc := 95) (n := 0) hx hb hEξ hQξ hU5ξ rfl (by decide) (zd_X11_addWorkOfRow (95, .ireturn, 1, 0, []) (List.mem_of_getElem? (i := 50) rfl)) (j := 0) rfl (zp_o0 (by omega) (by omega) (by omega) (by omega)) ?_
      rw [hpsξ]
      refine ⟨rfl, ?_⟩
      have hffξ : zf_awr V p1ξ = (0, (zf_bya (zf_bya (zf_bya (zf_bya V p1ξ).2 (p1ξ + 1)).2 (p1ξ + 2)).2 (p1ξ + 3)).2) := by
        unfold zf_awr
        rw [if_pos ((Iff.mp hti426ξ) (by omega)), if_pos hc430ξ]
      show zMVc A Y F (zf_awr V p1ξ).2 u.1 Ga425 ∧ 0 = (zf_awr V p1ξ).1
      rw [hffξ]
      exact ⟨⟨Ma425, hMa425ξ, hVa425ξ, trivial⟩, rfl⟩
    · refine zp_load (pc := 60) hx hb (zd_X11_addWorkOfRow (60, .iload 4, 2, 0, []) (List.mem_of_getElem? (i := 34) rfl)) rfl (j := 1) rfl ?_
      refine zp_const (pc := 62) hx hb (zd_X11_addWorkOfRow (62, .iconst 0, 1, 0, []) (List.mem_of_getElem? (i := 35) rfl)) rfl rfl ?_
      refine zp_const (pc := 63) hx hb (zd_X11_addWorkOfRow (63, .bipush 23, 2, 0, []) (List.mem_of_getElem? (i := 36) rfl)) rfl rfl ?_
      refine zp_call (pc := 65) (how := 1) (idx := 107) (mi := 15) (S := []) hx hb hEξ hwξ heffξ hrmξ (zX_iwn hWξ) rfl (j := 10) rfl rfl (by decide +kernel) (zd_X11_addWorkOfRow (65, .invokestatic 107, 3, 0, []) (List.mem_of_getElem? (i := 37) rfl)) [((zf_bya (zf_bya (zf_bya V p1ξ).2 (p1ξ + 1)).2 (p1ξ + 2)).1), 0, 23] rfl ⟨zp_o0 (by omega) (by omega) (by omega) (by omega), zp_o0 (by omega) (by omega) (by omega) (by omega), zp_o0 (by omega) (by omega) (by omega) (by omega), trivial⟩ (Nat.le_of_ble_eq_true rfl) trivial (fun al halξ rnn431ξ Pn431 Gn431 hextn431ξ hfrn431ξ hokn431ξ hcsn431ξ hpsin431ξ => ?_)
      obtain rfl := List.mem_singleton.mp halξ
      have hrn431ξ := zp_int (hokn431ξ _ rfl).1
      obtain ⟨hPen431ξ, hGen431ξ, htn431ξ⟩ := hpsin431ξ
      rw [hPen431ξ, hGen431ξ]
      clear hextn431ξ hfrn431ξ hcsn431ξ hPen431ξ hGen431ξ
      have htn431ξ : rnn431ξ = 1 ↔ 0 ≤ ((zf_bya (zf_bya (zf_bya V p1ξ).2 (p1ξ + 1)).2 (p1ξ + 2)).1) ∧ ((zf_bya (zf_bya (zf_bya V p1ξ).2 (p1ξ + 1)).2 (p1ξ + 2)).1) ≤ 23 := htn431ξ
      refine zp_if (pc := 68) (tgt := 94) hx hb (zd_X11_addWorkOfRow (68, .ifCond .eq 26, 3, 0, []) (List.mem_of_getElem? (i := 38) rfl)) rfl (fun (hc432ξ : rnn431ξ = 0) => ?_) (fun (hc432ξ : ¬ (rnn431ξ = 0)) => ?_)
      · have hbf433ξ : ¬ (0 ≤ ((zf_bya (zf_bya (zf_bya V p1ξ).2 (p1ξ + 1)).2 (p1ξ + 2)).1) ∧ ((zf_bya (zf_bya (zf_bya V p1ξ).2 (p1ξ + 1)).2 (p1ξ + 2)).1) ≤ 23) := fun h9ξ => absurd ((Iff.mpr htn431ξ) h9ξ) (by omega)
        refine zp_const (pc := 94) hx hb (zd_X11_addWorkOfRow (94, .iconst 0, 1, 0, []) (List.mem_of_getElem? (i := 49) rfl)) rfl rfl ?_
        refine zp_zret (pc := 95) (n := 0) hx hb hEξ hQξ hU5ξ rfl (by decide) (zd_X11_addWorkOfRow (95, .ireturn, 1, 0, []) (List.mem_of_getElem? (i := 50) rfl)) (j := 0) rfl (zp_o0 (by omega) (by omega) (by omega) (by omega)) ?_
        rw [hpsξ]
        refine ⟨rfl, ?_⟩
        have hffξ : zf_awr V p1ξ = (0, (zf_bya (zf_bya (zf_bya (zf_bya V p1ξ).2 (p1ξ + 1)).2 (p1ξ + 2)).2 (p1ξ + 3)).2) := by
          unfold zf_awr
          rw [if_pos ((Iff.mp hti426ξ) (by omega)), if_neg hc430ξ, if_neg (fun h9ξ => absurd ((Iff.mpr htn431ξ) h9ξ) (by omega))]
        show zMVc A Y F (zf_awr V p1ξ).2 u.1 Ga425 ∧ 0 = (zf_awr V p1ξ).1
        rw [hffξ]
        exact ⟨⟨Ma425, hMa425ξ, hVa425ξ, trivial⟩, rfl⟩
      · have hbt434ξ := (Iff.mp htn431ξ) (by omega)
        refine zp_load (pc := 71) hx hb (zd_X11_addWorkOfRow (71, .iload 5, 2, 0, []) (List.mem_of_getElem? (i := 39) rfl)) rfl (j := 0) rfl ?_
        refine zp_const (pc := 73) hx hb (zd_X11_addWorkOfRow (73, .iconst 1, 1, 0, []) (List.mem_of_getElem? (i := 40) rfl)) rfl rfl ?_
        refine zp_const (pc := 74) hx hb (zd_X11_addWorkOfRow (74, .bipush 99, 2, 0, []) (List.mem_of_getElem? (i := 41) rfl)) rfl rfl ?_
        refine zp_call (pc := 76) (how := 1) (idx := 107) (mi := 15) (S := []) hx hb hEξ hwξ heffξ hrmξ (zX_iwn hWξ) rfl (j := 10) rfl rfl (by decide +kernel) (zd_X11_addWorkOfRow (76, .invokestatic 107, 3, 0, []) (List.mem_of_getElem? (i := 42) rfl)) [((zf_bya (zf_bya (zf_bya (zf_bya V p1ξ).2 (p1ξ + 1)).2 (p1ξ + 2)).2 (p1ξ + 3)).1), 1, 99] rfl ⟨zp_o0 (by omega) (by omega) (by omega) (by omega), zp_o0 (by omega) (by omega) (by omega) (by omega), zp_o0 (by omega) (by omega) (by omega) (by omega), trivial⟩ (Nat.le_of_ble_eq_true rfl) trivial (fun al halξ rnn435ξ Pn435 Gn435 hextn435ξ hfrn435ξ hokn435ξ hcsn435ξ hpsin435ξ => ?_)
        obtain rfl := List.mem_singleton.mp halξ
        have hrn435ξ := zp_int (hokn435ξ _ rfl).1
        obtain ⟨hPen435ξ, hGen435ξ, htn435ξ⟩ := hpsin435ξ
        rw [hPen435ξ, hGen435ξ]
        clear hextn435ξ hfrn435ξ hcsn435ξ hPen435ξ hGen435ξ
        have htn435ξ : rnn435ξ = 1 ↔ 1 ≤ ((zf_bya (zf_bya (zf_bya (zf_bya V p1ξ).2 (p1ξ + 1)).2 (p1ξ + 2)).2 (p1ξ + 3)).1) ∧ ((zf_bya (zf_bya (zf_bya (zf_bya V p1ξ).2 (p1ξ + 1)).2 (p1ξ + 2)).2 (p1ξ + 3)).1) ≤ 99 := htn435ξ
        refine zp_if (pc := 79) (tgt := 94) hx hb (zd_X11_addWorkOfRow (79, .ifCond .eq 15, 3, 0, []) (List.mem_of_getElem? (i := 43) rfl)) rfl (fun (hc436ξ : rnn435ξ = 0) => ?_) (fun (hc436ξ : ¬ (rnn435ξ = 0)) => ?_)
        · have hbf437ξ : ¬ (1 ≤ ((zf_bya (zf_bya (zf_bya (zf_bya V p1ξ).2 (p1ξ + 1)).2 (p1ξ + 2)).2 (p1ξ + 3)).1) ∧ ((zf_bya (zf_bya (zf_bya (zf_bya V p1ξ).2 (p1ξ + 1)).2 (p1ξ + 2)).2 (p1ξ + 3)).1) ≤ 99) := fun h9ξ => absurd ((Iff.mpr htn435ξ) h9ξ) (by omega)
          refine zp_const (pc := 94) hx hb (zd_X11_addWorkOfRow (94, .iconst 0, 1, 0, []) (List.mem_of_getElem? (i := 49) rfl)) rfl rfl ?_
          refine zp_zret (pc := 95) (n := 0) hx hb hEξ hQξ hU5ξ rfl (by decide) (zd_X11_addWorkOfRow (95, .ireturn, 1, 0, []) (List.mem_of_getElem? (i := 50) rfl)) (j := 0) rfl (zp_o0 (by omega) (by omega) (by omega) (by omega)) ?_
          rw [hpsξ]
          refine ⟨rfl, ?_⟩
          have hffξ : zf_awr V p1ξ = (0, (zf_bya (zf_bya (zf_bya (zf_bya V p1ξ).2 (p1ξ + 1)).2 (p1ξ + 2)).2 (p1ξ + 3)).2) := by
            unfold zf_awr
            rw [if_pos ((Iff.mp hti426ξ) (by omega)), if_neg hc430ξ, if_pos ((Iff.mp htn431ξ) (by omega)), if_neg (fun h9ξ => absurd ((Iff.mpr htn435ξ) h9ξ) (by omega))]
          show zMVc A Y F (zf_awr V p1ξ).2 u.1 Ga425 ∧ 0 = (zf_awr V p1ξ).1
          rw [hffξ]
          exact ⟨⟨Ma425, hMa425ξ, hVa425ξ, trivial⟩, rfl⟩
        · have hbt438ξ := (Iff.mp htn435ξ) (by omega)
          refine zp_load (pc := 82) hx hb (zd_X11_addWorkOfRow (82, .aload_n 0, 1, 0, []) (List.mem_of_getElem? (i := 44) rfl)) rfl (j := 4) rfl ?_
          refine zp_getf (n := (A 1 : Int)) (pc := 83) hx hb hEξ hwξ (zd_X11_addWorkOfRow (83, .getfield 10, 3, 0, []) (List.mem_of_getElem? (i := 45) rfl)) (j := 50) rfl rfl rfl (zM_P hMa425ξ (hYbξ _ (List.mem_of_getElem? (i := 0) rfl))) ((zM_G hMa425ξ (hYbξ _ (List.mem_of_getElem? (i := 0) rfl)) 0).trans (zM_F hMa425ξ (hFbξ _ (List.mem_of_getElem? (i := 0) rfl)))) ?_
          refine zp_getf (n := (V 1 3)) (pc := 86) hx hb hEξ hwξ (zd_X11_addWorkOfRow (86, .getfield 153, 3, 0, []) (List.mem_of_getElem? (i := 46) rfl)) (j := 12) rfl rfl rfl (zM_P hMa425ξ (hYbξ _ (List.mem_of_getElem? (i := 1) rfl))) (((zM_G hMa425ξ (hYbξ _ (List.mem_of_getElem? (i := 1) rfl)) 3).trans (hVa425ξ 1 3 (by decide))).trans (Eq.trans (zf_bya_f (by decide)) (Eq.trans rfl (Eq.trans (zf_bya_f (by decide)) (Eq.trans rfl (Eq.trans (zf_bya_f (by decide)) (Eq.trans rfl (zf_bya_f (by decide))))))))) ?_
          refine zp_kn (k := 3) (a := (A 1)) hwξ (show zp_fd 10 3 = some (9, 0, 0, 0, 10) from rfl) rfl (zM_P hMa425ξ (hYbξ _ (List.mem_of_getElem? (i := 1) rfl))) (fun hf439ξ => ?_)
          have hf439bξ := zp_int hf439ξ
          rw [(((zM_G hMa425ξ (hYbξ _ (List.mem_of_getElem? (i := 1) rfl)) 3).trans (hVa425ξ 1 3 (by decide))).trans (Eq.trans (zf_bya_f (by decide)) (Eq.trans rfl (Eq.trans (zf_bya_f (by decide)) (Eq.trans rfl (Eq.trans (zf_bya_f (by decide)) (Eq.trans rfl (zf_bya_f (by decide)))))))))] at hf439bξ
          clear hf439ξ
          refine zp_const (pc := 89) hx hb (zd_X11_addWorkOfRow (89, .bipush 10, 2, 0, []) (List.mem_of_getElem? (i := 47) rfl)) rfl rfl ?_
          refine zp_icmp (pc := 91) (tgt := 96) hx hb (zd_X11_addWorkOfRow (91, .if_icmp .lt 5, 3, 0, []) (List.mem_of_getElem? (i := 48) rfl)) rfl (fun (hc440ξ : (V 1 3) < 10) => ?_) (fun (hc440ξ : ¬ ((V 1 3) < 10)) => ?_)
          · refine zp_load (pc := 96) hx hb (zd_X11_addWorkOfRow (96, .aload_n 0, 1, 0, []) (List.mem_of_getElem? (i := 51) rfl)) rfl (j := 4) rfl ?_
            refine zp_getf (n := (A 1 : Int)) (pc := 97) hx hb hEξ hwξ (zd_X11_addWorkOfRow (97, .getfield 10, 3, 0, []) (List.mem_of_getElem? (i := 52) rfl)) (j := 50) rfl rfl rfl (zM_P hMa425ξ (hYbξ _ (List.mem_of_getElem? (i := 0) rfl))) ((zM_G hMa425ξ (hYbξ _ (List.mem_of_getElem? (i := 0) rfl)) 0).trans (zM_F hMa425ξ (hFbξ _ (List.mem_of_getElem? (i := 0) rfl)))) ?_
            refine zp_load (pc := 100) hx hb (zd_X11_addWorkOfRow (100, .iload_n 2, 1, 0, []) (List.mem_of_getElem? (i := 53) rfl)) rfl (j := 3) rfl ?_
            refine zp_load (pc := 101) hx hb (zd_X11_addWorkOfRow (101, .iload_n 3, 1, 0, []) (List.mem_of_getElem? (i := 54) rfl)) rfl (j := 2) rfl ?_
            refine zp_load (pc := 102) hx hb (zd_X11_addWorkOfRow (102, .iload 4, 2, 0, []) (List.mem_of_getElem? (i := 55) rfl)) rfl (j := 1) rfl ?_
            refine zp_load (pc := 104) hx hb (zd_X11_addWorkOfRow (104, .iload 5, 2, 0, []) (List.mem_of_getElem? (i := 56) rfl)) rfl (j := 0) rfl ?_
            refine zp_const (pc := 106) hx hb (zd_X11_addWorkOfRow (106, .iconst (-1), 1, 0, []) (List.mem_of_getElem? (i := 57) rfl)) rfl rfl ?_
            refine zp_call (pc := 107) (how := 0) (idx := 156) (mi := 28) (S := []) hx hb hEξ hwξ heffξ hrmξ (zX_adw1 hWξ A Y F (zf_bya (zf_bya (zf_bya (zf_bya V p1ξ).2 (p1ξ + 1)).2 (p1ξ + 2)).2 (p1ξ + 3)).2) rfl (j := 18) rfl rfl (by decide +kernel) (zd_X11_addWorkOfRow (107, .invokevirtual 156, 3, 0, []) (List.mem_of_getElem? (i := 58) rfl)) [(A 1 : Int), ((zf_bya V p1ξ).1), ((zf_bya (zf_bya V p1ξ).2 (p1ξ + 1)).1), ((zf_bya (zf_bya (zf_bya V p1ξ).2 (p1ξ + 1)).2 (p1ξ + 2)).1), ((zf_bya (zf_bya (zf_bya (zf_bya V p1ξ).2 (p1ξ + 1)).2 (p1ξ + 2)).2 (p1ξ + 3)).1), (-1)] rfl ⟨zp_o2 (zM_P hMa425ξ (hYbξ _ (List.mem_of_getElem? (i := 1) rfl))), zp_o0 (by omega) (by omega) (by omega) (by omega), zp_o0 (by omega) (by omega) (by omega) (by omega), zp_o0 (by omega) (by omega) (by omega) (by omega), zp_o0 (by omega) (by omega) (by omega) (by omega), zp_o0 (by omega) (by omega) (by omega) (by omega), trivial⟩ (Nat.le_of_ble_eq_true rfl) ⟨⟨Ma425, hMa425ξ, hVa425ξ, trivial⟩, rfl, hYF0ξ⟩ (fun al halξ rna441ξ Pa441 Ga441 hexta441ξ hfra441ξ hoka441ξ hcsa441ξ hpsia441ξ => ?_)
            obtain rfl := List.mem_singleton.mp halξ
            have hra441ξ := zp_int (hoka441ξ _ rfl).1
            obtain ⟨hPea441ξ, ⟨Ma441, hMa441ξ, hVa441ξ, hSba441ξ⟩, hta441ξ⟩ := hpsia441ξ
            subst hPea441ξ
            clear hexta441ξ hfra441ξ hcsa441ξ hoka441ξ
            have hVa441ξ : ∀ o k, zNc o → Ma441 o k = (zf_adw1 (zf_bya (zf_bya (zf_bya (zf_bya V p1ξ).2 (p1ξ + 1)).2 (p1ξ + 2)).2 (p1ξ + 3)).2 ((zf_bya V p1ξ).1) ((zf_bya (zf_bya V p1ξ).2 (p1ξ + 1)).1) ((zf_bya (zf_bya (zf_bya V p1ξ).2 (p1ξ + 1)).2 (p1ξ + 2)).1) ((zf_bya (zf_bya (zf_bya (zf_bya V p1ξ).2 (p1ξ + 1)).2 (p1ξ + 2)).2 (p1ξ + 3)).1) (-1)).2 o k := hVa441ξ
            have hta441ξ : rna441ξ = ((zf_adw1 (zf_bya (zf_bya (zf_bya (zf_bya V p1ξ).2 (p1ξ + 1)).2 (p1ξ + 2)).2 (p1ξ + 3)).2 ((zf_bya V p1ξ).1) ((zf_bya (zf_bya V p1ξ).2 (p1ξ + 1)).1) ((zf_bya (zf_bya (zf_bya V p1ξ).2 (p1ξ + 1)).2 (p1ξ + 2)).1) ((zf_bya (zf_bya (zf_bya (zf_bya V p1ξ).2 (p1ξ + 1)).2 (p1ξ + 2)).2 (p1ξ + 3)).1) (-1)).1) := hta441ξ
            have hta441ξ := (Eq.symm hta441ξ)
            subst hta441ξ
            refine zp_pop (pc := 110) hx hb (zd_X11_addWorkOfRow (110, .pop, 1, 0, []) (List.mem_of_getElem? (i := 59) rfl)) (show (0 : Nat) ≠ 1 by decide) ?_
            refine zp_const (pc := 111) hx hb (zd_X11_addWorkOfRow (111, .iconst 1, 1, 0, []) (List.mem_of_getElem? (i := 60) rfl)) rfl rfl ?_
            refine zp_zret (pc := 112) (n := 1) hx hb hEξ hQξ hU5ξ rfl (by decide) (zd_X11_addWorkOfRow (112, .ireturn, 1, 0, []) (List.mem_of_getElem? (i := 61) rfl)) (j := 0) rfl (zp_o0 (by omega) (by omega) (by omega) (by omega)) ?_
            rw [hpsξ]
            refine ⟨rfl, ?_⟩
            have hffξ : zf_awr V p1ξ = (1, (zf_adw1 (zf_bya (zf_bya (zf_bya (zf_bya V p1ξ).2 (p1ξ + 1)).2 (p1ξ + 2)).2 (p1ξ + 3)).2 ((zf_bya V p1ξ).1) ((zf_bya (zf_bya V p1ξ).2 (p1ξ + 1)).1) ((zf_bya (zf_bya (zf_bya V p1ξ).2 (p1ξ + 1)).2 (p1ξ + 2)).1) ((zf_bya (zf_bya (zf_bya (zf_bya V p1ξ).2 (p1ξ + 1)).2 (p1ξ + 2)).2 (p1ξ + 3)).1) (-1)).2) := by
              unfold zf_awr
              rw [if_pos ((Iff.mp hti426ξ) (by omega)), if_neg hc430ξ, if_pos ((Iff.mp htn431ξ) (by omega)), if_pos ((Iff.mp htn435ξ) (by omega)), if_pos hc440ξ]
            show zMVc A Y F (zf_awr V p1ξ).2 u.1 Ga441 ∧ 1 = (zf_awr V p1ξ).1
            rw [hffξ]
            exact ⟨⟨Ma441, hMa441ξ, hVa441ξ, trivial⟩, rfl⟩
          · refine zp_const (pc := 94) hx hb (zd_X11_addWorkOfRow (94, .iconst 0, 1, 0, []) (List.mem_of_getElem? (i := 49) rfl)) rfl rfl ?_
            refine zp_zret (pc := 95) (n := 0) hx hb hEξ hQξ hU5ξ rfl (by decide) (zd_X11_addWorkOfRow (95, .ireturn, 1, 0, []) (List.mem_of_getElem? (i := 50) rfl)) (j := 0) rfl (zp_o0 (by omega) (by omega) (by omega) (by omega)) ?_
            rw [hpsξ]
            refine ⟨rfl, ?_⟩
            have hffξ : zf_awr V p1ξ = (0, (zf_bya (zf_bya (zf_bya (zf_bya V p1ξ).2 (p1ξ + 1)).2 (p1ξ + 2)).2 (p1ξ + 3)).2) := by
              unfold zf_awr
              rw [if_pos ((Iff.mp hti426ξ) (by omega)), if_neg hc430ξ, if_pos ((Iff.mp htn431ξ) (by omega)), if_pos ((Iff.mp htn435ξ) (by omega)), if_neg hc440ξ]
            show zMVc A Y F (zf_awr V p1ξ).2 u.1 Ga425 ∧ 0 = (zf_awr V p1ξ).1
            rw [hffξ]
            exact ⟨⟨Ma425, hMa425ξ, hVa425ξ, trivial⟩, rfl⟩
theorem zf_awr_f {V : Nat → Nat → Int} {p1ξ : Int} {o k : Nat} (h9ξ : o ∉ ([1, 32, 33, 34, 35, 36, 52] : List Nat)) : (zf_awr V p1ξ).2 o k = V o k := by
  unfold zf_awr
  by_cases hd2ξ : 0 ≤ ((zf_bya V p1ξ).1) ∧ ((zf_bya V p1ξ).1) < (V 1 1) ∧ ((zf_bya V p1ξ).1) < 6
  · rw [if_pos hd2ξ]
    by_cases hd4ξ : ((zf_bya (zf_bya V p1ξ).2 (p1ξ + 1)).1) < 1
    · rw [if_pos hd4ξ]
      show (zf_bya (zf_bya (zf_bya (zf_bya V p1ξ).2 (p1ξ + 1)).2 (p1ξ + 2)).2 (p1ξ + 3)).2 o k = V o k
      exact ((zf_bya_f (zc_sub h9ξ (by decide))).trans ((zf_bya_f (zc_sub h9ξ (by decide))).trans ((zf_bya_f (zc_sub h9ξ (by decide))).trans (zf_bya_f (zc_sub h9ξ (by decide))))))
    · rw [if_neg hd4ξ]
      by_cases hd6ξ : 0 ≤ ((zf_bya (zf_bya (zf_bya V p1ξ).2 (p1ξ + 1)).2 (p1ξ + 2)).1) ∧ ((zf_bya (zf_bya (zf_bya V p1ξ).2 (p1ξ + 1)).2 (p1ξ + 2)).1) ≤ 23
      · rw [if_pos hd6ξ]
        by_cases hd8ξ : 1 ≤ ((zf_bya (zf_bya (zf_bya (zf_bya V p1ξ).2 (p1ξ + 1)).2 (p1ξ + 2)).2 (p1ξ + 3)).1) ∧ ((zf_bya (zf_bya (zf_bya (zf_bya V p1ξ).2 (p1ξ + 1)).2 (p1ξ + 2)).2 (p1ξ + 3)).1) ≤ 99
        · rw [if_pos hd8ξ]
          by_cases hd10ξ : (V 1 3) < 10
          · rw [if_pos hd10ξ]
            show (zf_adw1 (zf_bya (zf_bya (zf_bya (zf_bya V p1ξ).2 (p1ξ + 1)).2 (p1ξ + 2)).2 (p1ξ + 3)).2 ((zf_bya V p1ξ).1) ((zf_bya (zf_bya V p1ξ).2 (p1ξ + 1)).1) ((zf_bya (zf_bya (zf_bya V p1ξ).2 (p1ξ + 1)).2 (p1ξ + 2)).1) ((zf_bya (zf_bya (zf_bya (zf_bya V p1ξ).2 (p1ξ + 1)).2 (p1ξ + 2)).2 (p1ξ + 3)).1) (-1)).2 o k = V o k
            exact ((zf_adw1_f (zc_sub h9ξ (by decide))).trans ((zf_bya_f (zc_sub h9ξ (by decide))).trans ((zf_bya_f (zc_sub h9ξ (by decide))).trans ((zf_bya_f (zc_sub h9ξ (by decide))).trans (zf_bya_f (zc_sub h9ξ (by decide)))))))
          · rw [if_neg hd10ξ]
            show (zf_bya (zf_bya (zf_bya (zf_bya V p1ξ).2 (p1ξ + 1)).2 (p1ξ + 2)).2 (p1ξ + 3)).2 o k = V o k
            exact ((zf_bya_f (zc_sub h9ξ (by decide))).trans ((zf_bya_f (zc_sub h9ξ (by decide))).trans ((zf_bya_f (zc_sub h9ξ (by decide))).trans (zf_bya_f (zc_sub h9ξ (by decide))))))
        · rw [if_neg hd8ξ]
          show (zf_bya (zf_bya (zf_bya (zf_bya V p1ξ).2 (p1ξ + 1)).2 (p1ξ + 2)).2 (p1ξ + 3)).2 o k = V o k
          exact ((zf_bya_f (zc_sub h9ξ (by decide))).trans ((zf_bya_f (zc_sub h9ξ (by decide))).trans ((zf_bya_f (zc_sub h9ξ (by decide))).trans (zf_bya_f (zc_sub h9ξ (by decide))))))
      · rw [if_neg hd6ξ]
        show (zf_bya (zf_bya (zf_bya (zf_bya V p1ξ).2 (p1ξ + 1)).2 (p1ξ + 2)).2 (p1ξ + 3)).2 o k = V o k
        exact ((zf_bya_f (zc_sub h9ξ (by decide))).trans ((zf_bya_f (zc_sub h9ξ (by decide))).trans ((zf_bya_f (zc_sub h9ξ (by decide))).trans (zf_bya_f (zc_sub h9ξ (by decide))))))
  · rw [if_neg hd2ξ]
    show (zf_bya (zf_bya (zf_bya (zf_bya V p1ξ).2 (p1ξ + 1)).2 (p1ξ + 2)).2 (p1ξ + 3)).2 o k = V o k
    exact ((zf_bya_f (zc_sub h9ξ (by decide))).trans ((zf_bya_f (zc_sub h9ξ (by decide))).trans ((zf_bya_f (zc_sub h9ξ (by decide))).trans (zf_bya_f (zc_sub h9ξ (by decide))))))
/-- a row, four by four: works that came, what stands then -/
noncomputable def zc_rw (V : Nat → Nat → Int) : Nat → Int × (Nat → Nat → Int)
  | 0 => (0, V)
  | k + 1 => if (zf_awr (zc_rw V k).2 (4 * (k : Int))).1 = 0 then ((zc_rw V k).1, zp_set (zf_awr (zc_rw V k).2 (4 * (k : Int))).2 0 17 ((zc_rw V k).2 0 17 + 1)) else ((zc_rw V k).1 + 1, (zf_awr (zc_rw V k).2 (4 * (k : Int))).2)
theorem zc_rwb {V : Nat → Nat → Int} (h0ξ : V 0 17 = 0) : ∀ k : Nat, (0 ≤ (zc_rw V k).1 ∧ (zc_rw V k).1 ≤ (k : Int)) ∧ (0 ≤ (zc_rw V k).2 0 17 ∧ (zc_rw V k).2 0 17 ≤ (k : Int)) ∧ (zc_rw V k).2 11 1 = V 11 1
  | 0 => ⟨⟨Int.le_refl _, Int.le_refl _⟩, ⟨by show 0 ≤ V 0 17; omega, by show V 0 17 ≤ 0; omega⟩, rfl⟩
  | k + 1 => by
    obtain ⟨⟨h1ξ, h2ξ⟩, ⟨h3ξ, h4ξ⟩, h5ξ⟩ := zc_rwb h0ξ k
    rw [zc_rw]
    split
    · refine ⟨⟨h1ξ, by show (zc_rw V k).1 ≤ ((k + 1 : Nat) : Int); omega⟩, ⟨?_, ?_⟩, ?_⟩
      · show 0 ≤ zp_set (zf_awr (zc_rw V k).2 (4 * (k : Int))).2 0 17 ((zc_rw V k).2 0 17 + 1) 0 17
        rw [zp_set_self]
        omega
      · show zp_set (zf_awr (zc_rw V k).2 (4 * (k : Int))).2 0 17 ((zc_rw V k).2 0 17 + 1) 0 17 ≤ ((k + 1 : Nat) : Int)
        rw [zp_set_self]
        omega
      · show zp_set (zf_awr (zc_rw V k).2 (4 * (k : Int))).2 0 17 ((zc_rw V k).2 0 17 + 1) 11 1 = V 11 1
        rw [zp_set_ne (Or.inl (by decide)), zf_awr_f (by decide)]
        exact h5ξ
    · refine ⟨⟨by show 0 ≤ (zc_rw V k).1 + 1; omega, by show (zc_rw V k).1 + 1 ≤ ((k + 1 : Nat) : Int); omega⟩, ⟨?_, ?_⟩, ?_⟩
      · show 0 ≤ (zf_awr _ _).2 0 17
        rw [zf_awr_f (by decide)]
        exact h3ξ
      · show (zf_awr _ _).2 0 17 ≤ ((k + 1 : Nat) : Int)
        rw [zf_awr_f (by decide)]
        omega
      · show (zf_awr _ _).2 11 1 = _
        rw [zf_awr_f (by decide)]
        exact h5ξ
/-- row -/
noncomputable def zf_rowc (V : Nat → Nat → Int) : Int × (Nat → Nat → Int) := if V 11 1 = 0 then (((zf_rfs V (-6)).1), (zf_rfs V (-6)).2) else (((zf_ans (zf_clr3 (zp_set (zc_rw (zp_set V 0 17 0) (((V 11 1).toNat + 3) / 4)).2 11 1 0)).2 (zc_rw (zp_set V 0 17 0) (((V 11 1).toNat + 3) / 4)).1).1), (zf_ans (zf_clr3 (zp_set (zc_rw (zp_set V 0 17 0) (((V 11 1).toNat + 3) / 4)).2 11 1 0)).2 (zc_rw (zp_set V 0 17 0) (((V 11 1).toNat + 3) / 4)).1).2)
noncomputable def zK_rowc : zk_K := (zt_mn 35, prog_1_method_11_code, 3, (Option.some Jvm.ClassFile.FieldType.int), 1, 11, [(2, 12, 0, 0)], [(some (0, 0, (-2147483648), 2147483647), [])], zUC, (3, 180, 0, 0))
noncomputable def zφ_rowc (A : Nat → Nat) (Y : List (Nat × Nat)) (F : List (Nat × Nat × Nat)) (V : Nat → Nat → Int) : (Nat → Option Nat) → (Nat → Nat → Int) → List Int → Prop := fun P G ps => zMVc A Y F V P G ∧ ps.getD 0 0 = (A 0 : Int) ∧ zMc Y F
noncomputable def zψ_rowc (A : Nat → Nat) (Y : List (Nat × Nat)) (F : List (Nat × Nat × Nat)) (V : Nat → Nat → Int) : (Nat → Option Nat) → (Nat → Nat → Int) → List Int → (Nat → Option Nat) → (Nat → Nat → Int) → Int → Prop := fun P G ps P' G' rn => P' = P ∧ zMVc A Y F (zf_rowc V).2 P' G' ∧ rn = (zf_rowc V).1
theorem zX_rowc {l : Launch} {w : zk_W} (hWξ : zh_W w) (A : Nat → Nat) (Y : List (Nat × Nat)) (F : List (Nat × Nat × Nat)) (V : Nat → Nat → Int) : zk_metX l w zt_dv zt_TB zK_rowc (zp_A (zφ_rowc A Y F V)) (zp_B (zψ_rowc A Y F V)) ∧ zk_cok w zt_TB zK_rowc := by
  refine zp_methX (cn := "WoundTown") zp_lkallW hWξ (pl := 688) rfl (by decide +kernel) (fun p e R s m args below meth c Q u hx hb hEξ hQξ hU5ξ heffξ hnLξ hokξ hφ => ?_)
  have hwξ := hWξ.1
  obtain ⟨p0ξ, hpsξ, tk0⟩ := zp_ps1 hokξ
  have hrmξ : zk_Kr (zk_ev (zt_types, zp_lkW, zt_dv, [], [], zp_lcW, zK_rowc)) = zk_Kr zK_rowc := rfl
  rw [hpsξ] at hφ ⊢
  have hφ : zMVc A Y F V u.1 (zp_n u.2.1) ∧ p0ξ = (A 0 : Int) ∧ zMc Y F := hφ
  obtain ⟨⟨M, hMξ, hVξ, hSbξ⟩, rfl, hYFξ⟩ := hφ
  have hYF0ξ := hYFξ
  obtain ⟨hYbξ, hFbξ, hFxξ, -⟩ := hYFξ
  show zp_J p l e R s m args below meth c Q w u [] 0 [(0, 2, (A 0 : Int))] [] u.1 (zp_n u.2.1)
  refine zp_load (pc := 0) hx hb (zd_X11_row (0, .aload_n 0, 1, 0, []) (List.mem_of_getElem? (i := 0) rfl)) rfl (j := 0) rfl ?_
  refine zp_getf (n := (A 11 : Int)) (pc := 1) hx hb hEξ hwξ (zd_X11_row (1, .getfield 67, 3, 0, []) (List.mem_of_getElem? (i := 1) rfl)) (j := 58) rfl rfl rfl (zM_P hMξ (hYbξ _ (List.mem_of_getElem? (i := 0) rfl))) ((zM_G hMξ (hYbξ _ (List.mem_of_getElem? (i := 0) rfl)) 8).trans (zM_F hMξ (hFbξ _ (List.mem_of_getElem? (i := 6) rfl)))) ?_
  refine zp_getf (n := (V 11 1)) (pc := 4) hx hb hEξ hwξ (zd_X11_row (4, .getfield 193, 3, 0, []) (List.mem_of_getElem? (i := 2) rfl)) (j := 39) rfl rfl rfl (zM_P hMξ (hYbξ _ (List.mem_of_getElem? (i := 11) rfl))) ((zM_G hMξ (hYbξ _ (List.mem_of_getElem? (i := 11) rfl)) 1).trans (hVξ 11 1 (by decide))) ?_
  refine zp_kn (k := 1) (a := (A 11)) hwξ (show zp_fd 7 1 = some (7, 0, 0, 0, 400) from rfl) rfl (zM_P hMξ (hYbξ _ (List.mem_of_getElem? (i := 11) rfl))) (fun hf442ξ => ?_)
  have hf442bξ := zp_int hf442ξ
  rw [((zM_G hMξ (hYbξ _ (List.mem_of_getElem? (i := 11) rfl)) 1).trans (hVξ 11 1 (by decide)))] at hf442bξ
  clear hf442ξ
  refine zp_if (pc := 7) (tgt := 17) hx hb (zd_X11_row (7, .ifCond .ne 10, 3, 0, []) (List.mem_of_getElem? (i := 3) rfl)) rfl (fun (hc443ξ : ¬ (V 11 1) = 0) => ?_) (fun (hc443ξ : ¬ (¬ (V 11 1) = 0)) => ?_)
  · refine zp_const (pc := 17) hx hb (zd_X11_row (17, .iconst 0, 1, 0, []) (List.mem_of_getElem? (i := 8) rfl)) rfl rfl ?_
    refine zp_store (L' := [(1, 0, 0), (0, 2, (A 0 : Int))]) (pc := 18) hx hb hnLξ (zd_X11_row (18, .istore_n 1, 1, 0, []) (List.mem_of_getElem? (i := 9) rfl)) rfl rfl rfl ?_
    refine zp_load (pc := 19) hx hb (zd_X11_row (19, .aload_n 0, 1, 0, []) (List.mem_of_getElem? (i := 10) rfl)) rfl (j := 1) rfl ?_
    refine zp_const (pc := 20) hx hb (zd_X11_row (20, .iconst 0, 1, 0, []) (List.mem_of_getElem? (i := 11) rfl)) rfl rfl ?_
    refine zp_putf (pc := 21) hx hb hEξ hwξ heffξ (zd_X11_row (21, .putfield 196, 3, 0, []) (List.mem_of_getElem? (i := 12) rfl)) (j := 67) rfl rfl rfl (zM_P hMξ (hYbξ _ (List.mem_of_getElem? (i := 0) rfl))) (zp_o0 (by decide) (by decide) (by decide) (by decide)) ?_
    refine zp_const (pc := 24) hx hb (zd_X11_row (24, .iconst 0, 1, 0, []) (List.mem_of_getElem? (i := 13) rfl)) rfl rfl ?_
    refine zp_store (L' := [(2, 0, 0), (1, 0, 0), (0, 2, (A 0 : Int))]) (pc := 25) hx hb hnLξ (zd_X11_row (25, .istore_n 2, 1, 0, []) (List.mem_of_getElem? (i := 14) rfl)) rfl rfl rfl ?_
    have hl0ξ : ¬ V 11 1 = 0 := by omega
    have hl4ξ : 0 ≤ V 11 1 ∧ V 11 1 ≤ 400 := by omega
    have hV0zξ : (zp_set V 0 17 0) 0 17 = 0 := zp_set_self
    have hV0lξ : (zp_set V 0 17 0) 11 1 = V 11 1 := zp_set_ne (Or.inl (by decide))
    have loop : ∀ (r9ξ k9ξ : Nat) (M : Nat → Nat → Int) (G : Nat → Nat → Int), r9ξ + k9ξ = (((V 11 1).toNat + 3) / 4) → zM A Y F M u.1 G → (∀ o k, zNc o → M o k = (zc_rw (zp_set V 0 17 0) k9ξ).2 o k) → zp_J p l e R s m args below meth c Q w u [] 26 [(2, 0, (4 * (k9ξ : Int))), (1, 0, (zc_rw (zp_set V 0 17 0) k9ξ).1), (0, 2, (A 0 : Int))] [] u.1 G := by
      intro r9ξ
      induction r9ξ with
      | zero =>
        intro k9ξ M G hrξ hMξ hVξ
        obtain ⟨⟨hcw0ξ, hcw1ξ⟩, ⟨hdw0ξ, hdw1ξ⟩, hlwξ⟩ := zc_rwb hV0zξ k9ξ
        rw [hV0lξ] at hlwξ
        have hk100ξ : k9ξ ≤ 101 := by omega
        have hk9ξ : k9ξ = (((V 11 1).toNat + 3) / 4) := by omega
        have hge9ξ : V 11 1 ≤ 4 * (k9ξ : Int) := by omega
        refine zp_load (pc := 26) hx hb (zd_X11_row (26, .iload_n 2, 1, 0, []) (List.mem_of_getElem? (i := 15) rfl)) rfl (j := 0) rfl ?_
        refine zp_load (pc := 27) hx hb (zd_X11_row (27, .aload_n 0, 1, 0, []) (List.mem_of_getElem? (i := 16) rfl)) rfl (j := 2) rfl ?_
        refine zp_getf (n := (A 11 : Int)) (pc := 28) hx hb hEξ hwξ (zd_X11_row (28, .getfield 67, 3, 0, []) (List.mem_of_getElem? (i := 17) rfl)) (j := 58) rfl rfl rfl (zM_P hMξ (hYbξ _ (List.mem_of_getElem? (i := 0) rfl))) ((zM_G hMξ (hYbξ _ (List.mem_of_getElem? (i := 0) rfl)) 8).trans (zM_F hMξ (hFbξ _ (List.mem_of_getElem? (i := 6) rfl)))) ?_
        refine zp_getf (n := (V 11 1)) (pc := 31) hx hb hEξ hwξ (zd_X11_row (31, .getfield 193, 3, 0, []) (List.mem_of_getElem? (i := 18) rfl)) (j := 39) rfl rfl rfl (zM_P hMξ (hYbξ _ (List.mem_of_getElem? (i := 11) rfl))) (((zM_G hMξ (hYbξ _ (List.mem_of_getElem? (i := 11) rfl)) 1).trans (hVξ 11 1 (by decide))).trans hlwξ) ?_
        refine zp_icmp (pc := 34) (tgt := 67) hx hb (zd_X11_row (34, .if_icmp .ge 33, 3, 0, []) (List.mem_of_getElem? (i := 19) rfl)) rfl (fun (hc444ξ : (V 11 1) ≤ (4 * (k9ξ : Int))) => ?_) (fun (hc444ξ : ¬ ((V 11 1) ≤ (4 * (k9ξ : Int)))) => ?_)
        · refine zp_load (pc := 67) hx hb (zd_X11_row (67, .aload_n 0, 1, 0, []) (List.mem_of_getElem? (i := 34) rfl)) rfl (j := 2) rfl ?_
          refine zp_getf (n := (A 11 : Int)) (pc := 68) hx hb hEξ hwξ (zd_X11_row (68, .getfield 67, 3, 0, []) (List.mem_of_getElem? (i := 35) rfl)) (j := 58) rfl rfl rfl (zM_P hMξ (hYbξ _ (List.mem_of_getElem? (i := 0) rfl))) ((zM_G hMξ (hYbξ _ (List.mem_of_getElem? (i := 0) rfl)) 8).trans (zM_F hMξ (hFbξ _ (List.mem_of_getElem? (i := 6) rfl)))) ?_
          refine zp_const (pc := 71) hx hb (zd_X11_row (71, .iconst 0, 1, 0, []) (List.mem_of_getElem? (i := 36) rfl)) rfl rfl ?_
          refine zp_putf (pc := 72) hx hb hEξ hwξ heffξ (zd_X11_row (72, .putfield 193, 3, 0, []) (List.mem_of_getElem? (i := 37) rfl)) (j := 39) rfl rfl rfl (zM_P hMξ (hYbξ _ (List.mem_of_getElem? (i := 11) rfl))) (zp_o0 (by decide) (by decide) (by decide) (by decide)) ?_
          refine zp_load (pc := 75) hx hb (zd_X11_row (75, .aload_n 0, 1, 0, []) (List.mem_of_getElem? (i := 38) rfl)) rfl (j := 2) rfl ?_
          refine zp_getf (n := (A 3 : Int)) (pc := 76) hx hb hEξ hwξ (zd_X11_row (76, .getfield 23, 3, 0, []) (List.mem_of_getElem? (i := 39) rfl)) (j := 52) rfl rfl rfl (zM_P hMξ (hYbξ _ (List.mem_of_getElem? (i := 0) rfl))) ((zp_set_ne (Or.inl (zM_ne hMξ (hYbξ _ (List.mem_of_getElem? (i := 0) rfl)) (hYbξ _ (List.mem_of_getElem? (i := 11) rfl)) (by decide)))).trans (((zM_G hMξ (hYbξ _ (List.mem_of_getElem? (i := 0) rfl)) 2).trans (zM_F hMξ (hFbξ _ (List.mem_of_getElem? (i := 2) rfl)))))) ?_
          refine zp_call (pc := 79) (how := 0) (idx := 124) (mi := 19) (S := []) hx hb hEξ hwξ heffξ hrmξ (zX_clr3 hWξ A Y F (zp_set (zc_rw (zp_set V 0 17 0) k9ξ).2 11 1 0)) rfl (j := 13) rfl rfl (by decide +kernel) (zd_X11_row (79, .invokevirtual 124, 3, 0, []) (List.mem_of_getElem? (i := 40) rfl)) [(A 3 : Int)] rfl ⟨zp_o2 (zM_P hMξ (hYbξ _ (List.mem_of_getElem? (i := 3) rfl))), trivial⟩ (Nat.le_of_ble_eq_true rfl) ⟨⟨(zp_set M 11 1 0), (zM_set hMξ (hYbξ _ (List.mem_of_getElem? (i := 11) rfl)) (zFx hFxξ (o := 11) (k := 1) (by decide) (by decide))), (zV_set hVξ), trivial⟩, rfl, hYF0ξ⟩ (fun al halξ rna445ξ Pa445 Ga445 hexta445ξ hfra445ξ hoka445ξ hcsa445ξ hpsia445ξ => ?_)
          obtain rfl := List.mem_singleton.mp halξ
          obtain ⟨hPea445ξ, Ma445, hMa445ξ, hVa445ξ, hSba445ξ⟩ := hpsia445ξ
          subst hPea445ξ
          clear hexta445ξ hfra445ξ hcsa445ξ hoka445ξ
          have hVa445ξ : ∀ o k, zNc o → Ma445 o k = (zf_clr3 (zp_set (zc_rw (zp_set V 0 17 0) k9ξ).2 11 1 0)).2 o k := hVa445ξ
          refine zp_load (pc := 82) hx hb (zd_X11_row (82, .aload_n 0, 1, 0, []) (List.mem_of_getElem? (i := 41) rfl)) rfl (j := 2) rfl ?_
          refine zp_load (pc := 83) hx hb (zd_X11_row (83, .iload_n 1, 1, 0, []) (List.mem_of_getElem? (i := 42) rfl)) rfl (j := 1) rfl ?_
          refine zp_call (pc := 84) (how := 0) (idx := 118) (mi := 17) (S := []) hx hb hEξ hwξ heffξ hrmξ (zX_ans hWξ A Y F (zf_clr3 (zp_set (zc_rw (zp_set V 0 17 0) k9ξ).2 11 1 0)).2) rfl (j := 12) rfl rfl (by decide +kernel) (zd_X11_row (84, .invokevirtual 118, 3, 0, []) (List.mem_of_getElem? (i := 43) rfl)) [(A 0 : Int), (zc_rw (zp_set V 0 17 0) k9ξ).1] rfl ⟨zp_o2 (zM_P hMa445ξ (hYbξ _ (List.mem_of_getElem? (i := 0) rfl))), zp_o0 (by omega) (by omega) (by omega) (by omega), trivial⟩ (Nat.le_of_ble_eq_true rfl) ⟨⟨Ma445, hMa445ξ, hVa445ξ, trivial⟩, rfl, hYF0ξ⟩ (fun al halξ rna446ξ Pa446 Ga446 hexta446ξ hfra446ξ hoka446ξ hcsa446ξ hpsia446ξ => ?_)
          obtain rfl := List.mem_singleton.mp halξ
          have hra446ξ := zp_int (hoka446ξ _ rfl).1
          obtain ⟨hPea446ξ, ⟨Ma446, hMa446ξ, hVa446ξ, hSba446ξ⟩, hta446ξ⟩ := hpsia446ξ
          subst hPea446ξ
          clear hexta446ξ hfra446ξ hcsa446ξ hoka446ξ
          have hVa446ξ : ∀ o k, zNc o → Ma446 o k = (zf_ans (zf_clr3 (zp_set (zc_rw (zp_set V 0 17 0) k9ξ).2 11 1 0)).2 (zc_rw (zp_set V 0 17 0) k9ξ).1).2 o k := hVa446ξ
          have hta446ξ : rna446ξ = ((zf_ans (zf_clr3 (zp_set (zc_rw (zp_set V 0 17 0) k9ξ).2 11 1 0)).2 (zc_rw (zp_set V 0 17 0) k9ξ).1).1) := hta446ξ
          have hta446ξ := (Eq.symm hta446ξ)
          subst hta446ξ
          refine zp_iret (pc := 87) (n := ((zf_ans (zf_clr3 (zp_set (zc_rw (zp_set V 0 17 0) k9ξ).2 11 1 0)).2 (zc_rw (zp_set V 0 17 0) k9ξ).1).1)) hx hb hEξ hQξ hU5ξ rfl (by decide) (zd_X11_row (87, .ireturn, 1, 0, []) (List.mem_of_getElem? (i := 44) rfl)) (j := 0) rfl (zp_o0 (by omega) (by omega) (by omega) (by omega)) ?_
          rw [hpsξ]
          refine ⟨rfl, ?_⟩
          have hffξ : zf_rowc V = (((zf_ans (zf_clr3 (zp_set (zc_rw (zp_set V 0 17 0) k9ξ).2 11 1 0)).2 (zc_rw (zp_set V 0 17 0) k9ξ).1).1), (zf_ans (zf_clr3 (zp_set (zc_rw (zp_set V 0 17 0) k9ξ).2 11 1 0)).2 (zc_rw (zp_set V 0 17 0) k9ξ).1).2) := by
            unfold zf_rowc
            rw [if_neg hl0ξ, ← hk9ξ]
          show zMVc A Y F (zf_rowc V).2 u.1 Ga446 ∧ ((zf_ans (zf_clr3 (zp_set (zc_rw (zp_set V 0 17 0) k9ξ).2 11 1 0)).2 (zc_rw (zp_set V 0 17 0) k9ξ).1).1) = (zf_rowc V).1
          rw [hffξ]
          exact ⟨⟨Ma446, hMa446ξ, hVa446ξ, trivial⟩, rfl⟩
        · exfalso
          omega
      | succ r9ξ ih =>
        intro k9ξ M G hrξ hMξ hVξ
        obtain ⟨⟨hcw0ξ, hcw1ξ⟩, ⟨hdw0ξ, hdw1ξ⟩, hlwξ⟩ := zc_rwb hV0zξ k9ξ
        rw [hV0lξ] at hlwξ
        have hk100ξ : k9ξ ≤ 101 := by omega
        have hlt9ξ : 4 * (k9ξ : Int) < V 11 1 := by omega
        refine zp_load (pc := 26) hx hb (zd_X11_row (26, .iload_n 2, 1, 0, []) (List.mem_of_getElem? (i := 15) rfl)) rfl (j := 0) rfl ?_
        refine zp_load (pc := 27) hx hb (zd_X11_row (27, .aload_n 0, 1, 0, []) (List.mem_of_getElem? (i := 16) rfl)) rfl (j := 2) rfl ?_
        refine zp_getf (n := (A 11 : Int)) (pc := 28) hx hb hEξ hwξ (zd_X11_row (28, .getfield 67, 3, 0, []) (List.mem_of_getElem? (i := 17) rfl)) (j := 58) rfl rfl rfl (zM_P hMξ (hYbξ _ (List.mem_of_getElem? (i := 0) rfl))) ((zM_G hMξ (hYbξ _ (List.mem_of_getElem? (i := 0) rfl)) 8).trans (zM_F hMξ (hFbξ _ (List.mem_of_getElem? (i := 6) rfl)))) ?_
        refine zp_getf (n := (V 11 1)) (pc := 31) hx hb hEξ hwξ (zd_X11_row (31, .getfield 193, 3, 0, []) (List.mem_of_getElem? (i := 18) rfl)) (j := 39) rfl rfl rfl (zM_P hMξ (hYbξ _ (List.mem_of_getElem? (i := 11) rfl))) (((zM_G hMξ (hYbξ _ (List.mem_of_getElem? (i := 11) rfl)) 1).trans (hVξ 11 1 (by decide))).trans hlwξ) ?_
        refine zp_icmp (pc := 34) (tgt := 67) hx hb (zd_X11_row (34, .if_icmp .ge 33, 3, 0, []) (List.mem_of_getElem? (i := 19) rfl)) rfl (fun (hc447ξ : (V 11 1) ≤ (4 * (k9ξ : Int))) => ?_) (fun (hc447ξ : ¬ ((V 11 1) ≤ (4 * (k9ξ : Int)))) => ?_)
        · exfalso
          omega
        · refine zp_load (pc := 37) hx hb (zd_X11_row (37, .aload_n 0, 1, 0, []) (List.mem_of_getElem? (i := 20) rfl)) rfl (j := 2) rfl ?_
          refine zp_load (pc := 38) hx hb (zd_X11_row (38, .iload_n 2, 1, 0, []) (List.mem_of_getElem? (i := 21) rfl)) rfl (j := 0) rfl ?_
          refine zp_call (pc := 39) (how := 0) (idx := 199) (mi := 36) (S := []) hx hb hEξ hwξ heffξ hrmξ (zX_awq hWξ A Y F (zc_rw (zp_set V 0 17 0) k9ξ).2) rfl (j := 21) rfl rfl (by decide +kernel) (zd_X11_row (39, .invokevirtual 199, 3, 0, []) (List.mem_of_getElem? (i := 22) rfl)) [(A 0 : Int), (4 * (k9ξ : Int))] rfl ⟨zp_o2 (zM_P hMξ (hYbξ _ (List.mem_of_getElem? (i := 0) rfl))), zp_o0 (by omega) (by omega) (by omega) (by omega), trivial⟩ (Nat.le_of_ble_eq_true rfl) ⟨⟨M, hMξ, hVξ, trivial⟩, rfl, hYF0ξ, (show 0 ≤ (4 * (k9ξ : Int)) by omega), (show (4 * (k9ξ : Int)) ≤ 400 by omega)⟩ (fun al halξ rna448ξ Pa448 Ga448 hexta448ξ hfra448ξ hoka448ξ hcsa448ξ hpsia448ξ => ?_)
          obtain rfl := List.mem_singleton.mp halξ
          have hra448ξ := zp_int (hoka448ξ _ rfl).1
          obtain ⟨hPea448ξ, ⟨Ma448, hMa448ξ, hVa448ξ, hSba448ξ⟩, hta448ξ⟩ := hpsia448ξ
          subst hPea448ξ
          clear hexta448ξ hfra448ξ hcsa448ξ hoka448ξ
          have hVa448ξ : ∀ o k, zNc o → Ma448 o k = (zf_awr (zc_rw (zp_set V 0 17 0) k9ξ).2 (4 * (k9ξ : Int))).2 o k := hVa448ξ
          have hta448ξ : rna448ξ = ((zf_awr (zc_rw (zp_set V 0 17 0) k9ξ).2 (4 * (k9ξ : Int))).1) := hta448ξ
          have hta448ξ := (Eq.symm hta448ξ)
          subst hta448ξ
          by_cases hz9ξ : ((zf_awr (zc_rw (zp_set V 0 17 0) k9ξ).2 (4 * (k9ξ : Int))).1) = 0
          · rw [hz9ξ]
            refine zp_if (pc := 42) (tgt := 51) hx hb (zd_X11_row (42, .ifCond .eq 9, 3, 0, []) (List.mem_of_getElem? (i := 23) rfl)) rfl (fun (hc449ξ : (0 : Int) = 0) => ?_) (fun (hc449ξ : ¬ ((0 : Int) = 0)) => ?_)
            · refine zp_load (pc := 51) hx hb (zd_X11_row (51, .aload_n 0, 1, 0, []) (List.mem_of_getElem? (i := 26) rfl)) rfl (j := 2) rfl ?_
              refine zp_dup (pc := 52) hx hb (zd_X11_row (52, .dup, 1, 0, []) (List.mem_of_getElem? (i := 27) rfl)) (show (2 : Nat) ≠ 1 by decide) ?_
              refine zp_getf (n := ((zc_rw (zp_set V 0 17 0) k9ξ).2 0 17)) (pc := 53) hx hb hEξ hwξ (zd_X11_row (53, .getfield 196, 3, 0, []) (List.mem_of_getElem? (i := 28) rfl)) (j := 67) rfl rfl rfl (zM_P hMa448ξ (hYbξ _ (List.mem_of_getElem? (i := 0) rfl))) (((zM_G hMa448ξ (hYbξ _ (List.mem_of_getElem? (i := 0) rfl)) 17).trans (hVa448ξ 0 17 (by decide))).trans (zf_awr_f (by decide))) ?_
              refine zp_const (pc := 56) hx hb (zd_X11_row (56, .iconst 1, 1, 0, []) (List.mem_of_getElem? (i := 29) rfl)) rfl rfl ?_
              refine zp_add (n := (((zc_rw (zp_set V 0 17 0) k9ξ).2 0 17) + 1)) (pc := 57) hx hb (zd_X11_row (57, .iadd, 1, 0, []) (List.mem_of_getElem? (i := 30) rfl)) (by omega) (zp_r0 (by omega) (by omega)) ?_
              refine zp_putf (pc := 58) hx hb hEξ hwξ heffξ (zd_X11_row (58, .putfield 196, 3, 0, []) (List.mem_of_getElem? (i := 31) rfl)) (j := 67) rfl rfl rfl (zM_P hMa448ξ (hYbξ _ (List.mem_of_getElem? (i := 0) rfl))) (zp_o0 (by omega) (by omega) (by omega) (by omega)) ?_
              refine zp_iinc (L' := [(2, 0, (4 * (k9ξ : Int) + 4)), (1, 0, (zc_rw (zp_set V 0 17 0) k9ξ).1), (0, 2, (A 0 : Int))]) (n := (4 * (k9ξ : Int) + 4)) (pc := 61) hx hb hnLξ (zd_X11_row (61, .iinc 2 4, 3, 0, []) (List.mem_of_getElem? (i := 32) rfl)) (j := 0) rfl (by omega) (zp_r0 (by omega) (by omega)) rfl rfl ?_
              refine zp_goto (tgt := 26) (pc := 64) hx hb (zd_X11_row (64, .goto (-38), 3, 0, []) (List.mem_of_getElem? (i := 33) rfl)) rfl ?_
              have hcwξ : zc_rw (zp_set V 0 17 0) (k9ξ + 1) = ((zc_rw (zp_set V 0 17 0) k9ξ).1, (zp_set (zf_awr (zc_rw (zp_set V 0 17 0) k9ξ).2 (4 * (k9ξ : Int))).2 0 17 (((zc_rw (zp_set V 0 17 0) k9ξ).2 0 17) + 1))) := by
                rw [zc_rw]
                rw [if_pos hz9ξ]
              have hfr9ξ : (4 * (k9ξ : Int) + 4) = 4 * ((k9ξ + 1 : Nat) : Int) := by omega
              rw [hfr9ξ]
              have hccξ : (zc_rw (zp_set V 0 17 0) k9ξ).1 = (zc_rw (zp_set V 0 17 0) (k9ξ + 1)).1 := by rw [hcwξ]
              refine zp_drop (L' := [(2, 0, (4 * ((k9ξ + 1 : Nat) : Int))), (1, 0, (zc_rw (zp_set V 0 17 0) k9ξ).1), (0, 2, (A 0 : Int))]) (by simp) ?_
              rw [hccξ]
              exact ih (k9ξ + 1) (zp_set Ma448 0 17 (((zc_rw (zp_set V 0 17 0) k9ξ).2 0 17) + 1)) (zp_set Ga448 (A 0) 17 (((zc_rw (zp_set V 0 17 0) k9ξ).2 0 17) + 1)) (by omega) (zM_set hMa448ξ (hYbξ _ (List.mem_of_getElem? (i := 0) rfl)) (zFx hFxξ (o := 0) (k := 17) (by decide) (by decide))) (fun o k hkξ => by rw [hcwξ]; exact (zV_set hVa448ξ) o k hkξ)
            · exfalso
              omega
          · refine zp_if (pc := 42) (tgt := 51) hx hb (zd_X11_row (42, .ifCond .eq 9, 3, 0, []) (List.mem_of_getElem? (i := 23) rfl)) rfl (fun (hc450ξ : ((zf_awr (zc_rw (zp_set V 0 17 0) k9ξ).2 (4 * (k9ξ : Int))).1) = 0) => ?_) (fun (hc450ξ : ¬ (((zf_awr (zc_rw (zp_set V 0 17 0) k9ξ).2 (4 * (k9ξ : Int))).1) = 0)) => ?_)
            · exfalso
              omega
            · refine zp_iinc (L' := [(1, 0, ((zc_rw (zp_set V 0 17 0) k9ξ).1 + 1)), (2, 0, (4 * (k9ξ : Int))), (0, 2, (A 0 : Int))]) (n := ((zc_rw (zp_set V 0 17 0) k9ξ).1 + 1)) (pc := 45) hx hb hnLξ (zd_X11_row (45, .iinc 1 1, 3, 0, []) (List.mem_of_getElem? (i := 24) rfl)) (j := 1) rfl (by omega) (zp_r0 (by omega) (by omega)) rfl rfl ?_
              refine zp_goto (tgt := 61) (pc := 48) hx hb (zd_X11_row (48, .goto 13, 3, 0, []) (List.mem_of_getElem? (i := 25) rfl)) rfl ?_
              refine zp_iinc (L' := [(2, 0, (4 * (k9ξ : Int) + 4)), (1, 0, ((zc_rw (zp_set V 0 17 0) k9ξ).1 + 1)), (0, 2, (A 0 : Int))]) (n := (4 * (k9ξ : Int) + 4)) (pc := 61) hx hb hnLξ (zd_X11_row (61, .iinc 2 4, 3, 0, []) (List.mem_of_getElem? (i := 32) rfl)) (j := 1) rfl (by omega) (zp_r0 (by omega) (by omega)) rfl rfl ?_
              refine zp_goto (tgt := 26) (pc := 64) hx hb (zd_X11_row (64, .goto (-38), 3, 0, []) (List.mem_of_getElem? (i := 33) rfl)) rfl ?_
              have hcwξ : zc_rw (zp_set V 0 17 0) (k9ξ + 1) = (((zc_rw (zp_set V 0 17 0) k9ξ).1 + 1), (zf_awr (zc_rw (zp_set V 0 17 0) k9ξ).2 (4 * (k9ξ : Int))).2) := by
                rw [zc_rw]
                rw [if_neg hz9ξ]
              have hfr9ξ : (4 * (k9ξ : Int) + 4) = 4 * ((k9ξ + 1 : Nat) : Int) := by omega
              rw [hfr9ξ]
              have hccξ : ((zc_rw (zp_set V 0 17 0) k9ξ).1 + 1) = (zc_rw (zp_set V 0 17 0) (k9ξ + 1)).1 := by rw [hcwξ]
              refine zp_drop (L' := [(2, 0, (4 * ((k9ξ + 1 : Nat) : Int))), (1, 0, ((zc_rw (zp_set V 0 17 0) k9ξ).1 + 1)), (0, 2, (A 0 : Int))]) (by simp) ?_
              rw [hccξ]
              exact ih (k9ξ + 1) Ma448 Ga448 (by omega) hMa448ξ (fun o k hkξ => by rw [hcwξ]; exact hVa448ξ o k hkξ)
    refine zp_drop (L' := [(2, 0, 0), (1, 0, 0), (0, 2, (A 0 : Int))]) (by simp) ?_
    exact loop (((V 11 1).toNat + 3) / 4) 0 (zp_set M 0 17 0) (zp_set (zp_n u.2.1) (A 0) 17 0) (by omega) (zM_set hMξ (hYbξ _ (List.mem_of_getElem? (i := 0) rfl)) (zFx hFxξ (o := 0) (k := 17) (by decide) (by decide))) (fun o k hkξ => (zV_set hVξ) o k hkξ)
  · refine zp_load (pc := 10) hx hb (zd_X11_row (10, .aload_n 0, 1, 0, []) (List.mem_of_getElem? (i := 4) rfl)) rfl (j := 0) rfl ?_
    refine zp_const (pc := 11) hx hb (zd_X11_row (11, .bipush (-6), 2, 0, []) (List.mem_of_getElem? (i := 5) rfl)) rfl rfl ?_
    refine zp_call (pc := 13) (how := 0) (idx := 111) (mi := 16) (S := []) hx hb hEξ hwξ heffξ hrmξ (zX_rfs hWξ A Y F V) rfl (j := 11) rfl rfl (by decide +kernel) (zd_X11_row (13, .invokevirtual 111, 3, 0, []) (List.mem_of_getElem? (i := 6) rfl)) [(A 0 : Int), (-6)] rfl ⟨zp_o2 (zM_P hMξ (hYbξ _ (List.mem_of_getElem? (i := 0) rfl))), zp_o0 (by omega) (by omega) (by omega) (by omega), trivial⟩ (Nat.le_of_ble_eq_true rfl) ⟨⟨M, hMξ, hVξ, trivial⟩, rfl, hYF0ξ⟩ (fun al halξ rna451ξ Pa451 Ga451 hexta451ξ hfra451ξ hoka451ξ hcsa451ξ hpsia451ξ => ?_)
    obtain rfl := List.mem_singleton.mp halξ
    have hra451ξ := zp_int (hoka451ξ _ rfl).1
    obtain ⟨hPea451ξ, ⟨Ma451, hMa451ξ, hVa451ξ, hSba451ξ⟩, hta451ξ⟩ := hpsia451ξ
    subst hPea451ξ
    clear hexta451ξ hfra451ξ hcsa451ξ hoka451ξ
    have hVa451ξ : ∀ o k, zNc o → Ma451 o k = (zf_rfs V (-6)).2 o k := hVa451ξ
    have hta451ξ : rna451ξ = ((zf_rfs V (-6)).1) := hta451ξ
    have hta451ξ := (Eq.symm hta451ξ)
    subst hta451ξ
    refine zp_iret (pc := 16) (n := ((zf_rfs V (-6)).1)) hx hb hEξ hQξ hU5ξ rfl (by decide) (zd_X11_row (16, .ireturn, 1, 0, []) (List.mem_of_getElem? (i := 7) rfl)) (j := 0) rfl (zp_o0 (by omega) (by omega) (by omega) (by omega)) ?_
    rw [hpsξ]
    refine ⟨rfl, ?_⟩
    have hffξ : zf_rowc V = (((zf_rfs V (-6)).1), (zf_rfs V (-6)).2) := by unfold zf_rowc; rw [if_pos (by omega)]
    show zMVc A Y F (zf_rowc V).2 u.1 Ga451 ∧ ((zf_rfs V (-6)).1) = (zf_rowc V).1
    rw [hffξ]
    exact ⟨⟨Ma451, hMa451ξ, hVa451ξ, trivial⟩, rfl⟩
