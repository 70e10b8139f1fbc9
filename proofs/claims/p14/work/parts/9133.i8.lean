/-! part i8: the class over logical cells: day -/
noncomputable def zK_witd : zk_K := (zt_mn 134, prog_2_method_13_code, 3, (Option.some Jvm.ClassFile.FieldType.int), 1, 0, [(2, 0, 0, 0)], [(some (0, 0, (-2147483648), 2147483647), [])], [], (2, 120, 0, 0))
noncomputable def zφ_witd (A : Nat → Nat) (Y : List (Nat × Nat)) (F : List (Nat × Nat × Nat)) (M : Nat → Nat → Int) (V : Nat → Nat → Int) (X : (Nat → Int) × (Nat → Int)) (n1ξ : Nat) : (Nat → Option Nat) → (Nat → Nat → Int) → List Int → Prop := fun P G ps => zM A Y F M P G ∧ ps.getD 0 0 = (A 5 : Int) ∧ zMc Y F ∧ (∀ o k, zNc o → M o k = V o k) ∧ M 5 1 = (A 1 : Int) ∧ zDX X M ∧ V 1 3 = (n1ξ : Int) ∧ n1ξ ≤ 10 ∧ ∀ w, w < n1ξ → 0 ≤ V 35 (2000 + w) ∧ V 35 (2000 + w) ≤ 1000
noncomputable def zψ_witd (A : Nat → Nat) (Y : List (Nat × Nat)) (F : List (Nat × Nat × Nat)) (M : Nat → Nat → Int) (V : Nat → Nat → Int) (X : (Nat → Int) × (Nat → Int)) (n1ξ : Nat) : (Nat → Option Nat) → (Nat → Nat → Int) → List Int → (Nat → Option Nat) → (Nat → Nat → Int) → Int → Prop := fun P G ps P' G' rn => P' = P ∧ G' = G ∧ rn = zc_wt X (fun w => V 34 (2000 + w)) (fun w => V 35 (2000 + w)) n1ξ
theorem zX_witd {l : Launch} {w : zk_W} (hWξ : zh_W w) (A : Nat → Nat) (Y : List (Nat × Nat)) (F : List (Nat × Nat × Nat)) (M : Nat → Nat → Int) (V : Nat → Nat → Int) (X : (Nat → Int) × (Nat → Int)) (n1ξ : Nat) : zk_metX l w zt_dv zt_TB zK_witd (zp_A (zφ_witd A Y F M V X n1ξ)) (zp_B (zψ_witd A Y F M V X n1ξ)) ∧ zk_cok w zt_TB zK_witd := by
  refine zp_methX (cn := "WoundTown$Day") zp_lkallDy hWξ (pl := 1122) rfl (by decide +kernel) (fun p e R s m args below meth c Q u hx hb hEξ hQξ hU5ξ heffξ hnLξ hokξ hφ => ?_)
  have hwξ := hWξ.1
  obtain ⟨p0ξ, hpsξ, tk0⟩ := zp_ps1 hokξ
  have hrmξ : zk_Kr (zk_ev (zt_types, zp_lkDy, zt_dv, [], [], zp_lcDy, zK_witd)) = zk_Kr zK_witd := rfl
  rw [hpsξ] at hφ ⊢
  have hφ : zM A Y F M u.1 (zp_n u.2.1) ∧ p0ξ = (A 5 : Int) ∧ zMc Y F ∧ (∀ o k, zNc o → M o k = V o k) ∧ M 5 1 = (A 1 : Int) ∧ zDX X M ∧ V 1 3 = (n1ξ : Int) ∧ n1ξ ≤ 10 ∧ ∀ w, w < n1ξ → 0 ≤ V 35 (2000 + w) ∧ V 35 (2000 + w) ≤ 1000 := hφ
  obtain ⟨hMξ, rfl, hYFξ, hVξ, h51ξ, hXξ, hn1ξ, hn10ξ, hwoξ⟩ := hφ
  have hYF0ξ := hYFξ
  obtain ⟨hYbξ, hFbξ, hFxξ, -⟩ := hYFξ
  show zp_J p l e R s m args below meth c Q w u [] 0 [(0, 2, (A 5 : Int))] [] u.1 (zp_n u.2.1)
  have loop : ∀ (k9ξ w9ξ : Nat), k9ξ + w9ξ = n1ξ → zp_J p l e R s m args below meth c Q w u [] 4 [(2, 0, (w9ξ : Int)), (1, 0, (zc_wt X (fun w => V 34 (2000 + w)) (fun w => V 35 (2000 + w)) w9ξ)), (0, 2, (A 5 : Int))] [] u.1 (zp_n u.2.1) := by
    intro k9ξ
    induction k9ξ with
    | zero =>
      intro w9ξ hkξ
      have e9ξ : w9ξ = n1ξ := by omega
      rw [e9ξ]
      have hwbξ := zc_wtb (X := X) (due := (fun w => V 34 (2000 + w))) (wo := (fun w => V 35 (2000 + w))) (w := n1ξ) (fun j hjξ => hwoξ j (by omega))
      refine zp_load (pc := 4) hx hb (zd_X0_worthInTime (4, .iload_n 2, 1, 0, []) (List.mem_of_getElem? (i := 4) rfl)) rfl (j := 0) rfl ?_
      refine zp_load (pc := 5) hx hb (zd_X0_worthInTime (5, .aload_n 0, 1, 0, []) (List.mem_of_getElem? (i := 5) rfl)) rfl (j := 2) rfl ?_
      refine zp_getf (n := (A 1 : Int)) (pc := 6) hx hb hEξ hwξ (zd_X0_worthInTime (6, .getfield 25, 3, 0, []) (List.mem_of_getElem? (i := 6) rfl)) (j := 18) rfl rfl rfl (zM_P hMξ (hYbξ _ (List.mem_of_getElem? (i := 5) rfl))) ((zM_G hMξ (hYbξ _ (List.mem_of_getElem? (i := 5) rfl)) 1).trans h51ξ) ?_
      refine zp_getf (n := (n1ξ : Int)) (pc := 9) hx hb hEξ hwξ (zd_X0_worthInTime (9, .getfield 80, 3, 0, []) (List.mem_of_getElem? (i := 7) rfl)) (j := 5) rfl rfl rfl (zM_P hMξ (hYbξ _ (List.mem_of_getElem? (i := 1) rfl))) (((zM_G hMξ (hYbξ _ (List.mem_of_getElem? (i := 1) rfl)) 3).trans (hVξ 1 3 (by decide))).trans hn1ξ) ?_
      refine zp_icmp (pc := 12) (tgt := 47) hx hb (zd_X0_worthInTime (12, .if_icmp .ge 35, 3, 0, []) (List.mem_of_getElem? (i := 8) rfl)) rfl (fun (hc645ξ : (n1ξ : Int) ≤ (n1ξ : Int)) => ?_) (fun (hc645ξ : ¬ ((n1ξ : Int) ≤ (n1ξ : Int))) => ?_)
      · refine zp_load (pc := 47) hx hb (zd_X0_worthInTime (47, .iload_n 1, 1, 0, []) (List.mem_of_getElem? (i := 26) rfl)) rfl (j := 1) rfl ?_
        refine zp_iret (pc := 48) (n := (zc_wt X (fun w => V 34 (2000 + w)) (fun w => V 35 (2000 + w)) n1ξ)) hx hb hEξ hQξ hU5ξ rfl (by decide) (zd_X0_worthInTime (48, .ireturn, 1, 0, []) (List.mem_of_getElem? (i := 27) rfl)) (j := 0) rfl (zp_o0 (by omega) (by omega) (by omega) (by omega)) ?_
        rw [hpsξ]
        refine ⟨rfl, rfl, ?_⟩
        rfl
      · exfalso
        omega
    | succ k9ξ ih =>
      intro w9ξ hkξ
      have hwbξ := zc_wtb (X := X) (due := (fun w => V 34 (2000 + w))) (wo := (fun w => V 35 (2000 + w))) (w := w9ξ) (fun j hjξ => hwoξ j (by omega))
      have hwo9ξ := hwoξ w9ξ (by omega)
      refine zp_load (pc := 4) hx hb (zd_X0_worthInTime (4, .iload_n 2, 1, 0, []) (List.mem_of_getElem? (i := 4) rfl)) rfl (j := 0) rfl ?_
      refine zp_load (pc := 5) hx hb (zd_X0_worthInTime (5, .aload_n 0, 1, 0, []) (List.mem_of_getElem? (i := 5) rfl)) rfl (j := 2) rfl ?_
      refine zp_getf (n := (A 1 : Int)) (pc := 6) hx hb hEξ hwξ (zd_X0_worthInTime (6, .getfield 25, 3, 0, []) (List.mem_of_getElem? (i := 6) rfl)) (j := 18) rfl rfl rfl (zM_P hMξ (hYbξ _ (List.mem_of_getElem? (i := 5) rfl))) ((zM_G hMξ (hYbξ _ (List.mem_of_getElem? (i := 5) rfl)) 1).trans h51ξ) ?_
      refine zp_getf (n := (n1ξ : Int)) (pc := 9) hx hb hEξ hwξ (zd_X0_worthInTime (9, .getfield 80, 3, 0, []) (List.mem_of_getElem? (i := 7) rfl)) (j := 5) rfl rfl rfl (zM_P hMξ (hYbξ _ (List.mem_of_getElem? (i := 1) rfl))) (((zM_G hMξ (hYbξ _ (List.mem_of_getElem? (i := 1) rfl)) 3).trans (hVξ 1 3 (by decide))).trans hn1ξ) ?_
      refine zp_icmp (pc := 12) (tgt := 47) hx hb (zd_X0_worthInTime (12, .if_icmp .ge 35, 3, 0, []) (List.mem_of_getElem? (i := 8) rfl)) rfl (fun (hc646ξ : (n1ξ : Int) ≤ (w9ξ : Int)) => ?_) (fun (hc646ξ : ¬ ((n1ξ : Int) ≤ (w9ξ : Int))) => ?_)
      · exfalso
        omega
      · refine zp_load (pc := 15) hx hb (zd_X0_worthInTime (15, .iload_n 2, 1, 0, []) (List.mem_of_getElem? (i := 9) rfl)) rfl (j := 0) rfl ?_
        refine zp_const (pc := 16) hx hb (zd_X0_worthInTime (16, .bipush 10, 2, 0, []) (List.mem_of_getElem? (i := 10) rfl)) rfl rfl ?_
        refine zp_icmp (pc := 18) (tgt := 47) hx hb (zd_X0_worthInTime (18, .if_icmp .ge 29, 3, 0, []) (List.mem_of_getElem? (i := 11) rfl)) rfl (fun (hc647ξ : 10 ≤ (w9ξ : Int)) => ?_) (fun (hc647ξ : ¬ (10 ≤ (w9ξ : Int))) => ?_)
        · exfalso
          omega
        · refine zp_load (pc := 21) hx hb (zd_X0_worthInTime (21, .aload_n 0, 1, 0, []) (List.mem_of_getElem? (i := 12) rfl)) rfl (j := 2) rfl ?_
          refine zp_load (pc := 22) hx hb (zd_X0_worthInTime (22, .iload_n 2, 1, 0, []) (List.mem_of_getElem? (i := 13) rfl)) rfl (j := 0) rfl ?_
          refine zp_call (pc := 23) (how := 0) (idx := 135) (mi := 135) (S := []) hx hb hEξ hwξ heffξ hrmξ (zX_isit hWξ A Y F M V X) rfl (j := 14) rfl rfl (by decide +kernel) (zd_X0_worthInTime (23, .invokevirtual 135, 3, 0, []) (List.mem_of_getElem? (i := 14) rfl)) [(A 5 : Int), (w9ξ : Int)] rfl ⟨zp_o2 (zM_P hMξ (hYbξ _ (List.mem_of_getElem? (i := 5) rfl))), zp_o0 (by omega) (by omega) (by omega) (by omega), trivial⟩ (Nat.le_of_ble_eq_true rfl) ⟨hMξ, rfl, hYF0ξ, hVξ, h51ξ, hXξ⟩ (fun al halξ rnt648ξ Pt648 Gt648 hextt648ξ hfrt648ξ hokt648ξ hcst648ξ hpsit648ξ => ?_)
          obtain rfl := List.mem_singleton.mp halξ
          have hrt648ξ := zp_int (hokt648ξ _ rfl).1
          obtain ⟨hPet648ξ, hGet648ξ, htt648ξ⟩ := hpsit648ξ
          rw [hPet648ξ, hGet648ξ]
          clear hextt648ξ hfrt648ξ hcst648ξ hPet648ξ hGet648ξ
          have htt648ξ : rnt648ξ = 1 ↔ (X.2 w9ξ ≠ -1 ∧ X.2 w9ξ ≤ V 34 (2000 + w9ξ)) := by
            have h9ξ : rnt648ξ = 1 ↔ ((0 ≤ (w9ξ : Int) ∧ (w9ξ : Int) < 10) ∧ X.2 ((w9ξ : Int)).toNat ≠ -1) ∧ X.2 ((w9ξ : Int)).toNat ≤ V 34 (2000 + ((w9ξ : Int)).toNat) := htt648ξ
            rw [show ((w9ξ : Int) : Int).toNat = w9ξ by omega] at h9ξ
            omega
          refine zp_if (pc := 26) (tgt := 41) hx hb (zd_X0_worthInTime (26, .ifCond .eq 15, 3, 0, []) (List.mem_of_getElem? (i := 15) rfl)) rfl (fun (hc649ξ : rnt648ξ = 0) => ?_) (fun (hc649ξ : ¬ (rnt648ξ = 0)) => ?_)
          · refine zp_iinc (L' := [(2, 0, ((w9ξ : Int) + 1)), (1, 0, (zc_wt X (fun w => V 34 (2000 + w)) (fun w => V 35 (2000 + w)) w9ξ)), (0, 2, (A 5 : Int))]) (n := ((w9ξ : Int) + 1)) (pc := 41) hx hb hnLξ (zd_X0_worthInTime (41, .iinc 2 1, 3, 0, []) (List.mem_of_getElem? (i := 24) rfl)) (j := 0) rfl (by omega) (zp_r0 (by omega) (by omega)) rfl rfl ?_
            refine zp_goto (tgt := 4) (pc := 44) hx hb (zd_X0_worthInTime (44, .goto (-40), 3, 0, []) (List.mem_of_getElem? (i := 25) rfl)) rfl ?_
            have ha9ξ : (zc_wt X (fun w => V 34 (2000 + w)) (fun w => V 35 (2000 + w)) w9ξ) = (zc_wt X (fun w => V 34 (2000 + w)) (fun w => V 35 (2000 + w)) (w9ξ + 1)) := by
              rw [zc_wt]
              by_cases c9ξ : X.2 w9ξ ≠ -1 ∧ X.2 w9ξ ≤ V 34 (2000 + w9ξ)
              · rw [if_pos c9ξ]
                all_goals (have c8 := (Iff.mpr htt648ξ) c9ξ; omega)
              · rw [if_neg c9ξ]
                all_goals (have c8 := fun z => c9ξ ((Iff.mp htt648ξ) z); omega)
            rw [ha9ξ]
            refine zp_drop (L' := [(2, 0, ((w9ξ : Int) + 1)), (1, 0, (zc_wt X (fun w => V 34 (2000 + w)) (fun w => V 35 (2000 + w)) (w9ξ + 1))), (0, 2, (A 5 : Int))]) (by simp) ?_
            exact ih (w9ξ + 1) (by omega)
          · refine zp_load (pc := 29) hx hb (zd_X0_worthInTime (29, .iload_n 1, 1, 0, []) (List.mem_of_getElem? (i := 16) rfl)) rfl (j := 1) rfl ?_
            refine zp_load (pc := 30) hx hb (zd_X0_worthInTime (30, .aload_n 0, 1, 0, []) (List.mem_of_getElem? (i := 17) rfl)) rfl (j := 2) rfl ?_
            refine zp_getf (n := (A 1 : Int)) (pc := 31) hx hb hEξ hwξ (zd_X0_worthInTime (31, .getfield 25, 3, 0, []) (List.mem_of_getElem? (i := 18) rfl)) (j := 18) rfl rfl rfl (zM_P hMξ (hYbξ _ (List.mem_of_getElem? (i := 5) rfl))) ((zM_G hMξ (hYbξ _ (List.mem_of_getElem? (i := 5) rfl)) 1).trans h51ξ) ?_
            refine zp_getf (n := (A 35 : Int)) (pc := 34) hx hb hEξ hwξ (zd_X0_worthInTime (34, .getfield 138, 3, 0, []) (List.mem_of_getElem? (i := 19) rfl)) (j := 9) rfl rfl rfl (zM_P hMξ (hYbξ _ (List.mem_of_getElem? (i := 1) rfl))) ((zM_G hMξ (hYbξ _ (List.mem_of_getElem? (i := 1) rfl)) 7).trans (zM_F hMξ (hFbξ _ (List.mem_of_getElem? (i := 18) rfl)))) ?_
            refine zp_load (pc := 37) hx hb (zd_X0_worthInTime (37, .iload_n 2, 1, 0, []) (List.mem_of_getElem? (i := 20) rfl)) rfl (j := 0) rfl ?_
            refine zp_iald (j := w9ξ) (v := (V 35 (2000 + w9ξ))) (pc := 38) hx hb hwξ (zd_X0_worthInTime (38, .iaload, 1, 0, []) (List.mem_of_getElem? (i := 21) rfl)) (show zp_ia 1 47 = some (10, 0, 0, (-2147483648), 2147483647) from rfl) (zM_P hMξ (hYbξ _ (List.mem_of_getElem? (i := 22) rfl))) (by omega) (by omega) ((zM_G hMξ (hYbξ _ (List.mem_of_getElem? (i := 22) rfl)) (2000 + w9ξ)).trans (hVξ 35 (2000 + w9ξ) (by decide))) (fun hk650ξ => ?_)
            have hk650bξ := zp_int hk650ξ
            clear hk650ξ
            refine zp_add (n := ((zc_wt X (fun w => V 34 (2000 + w)) (fun w => V 35 (2000 + w)) w9ξ) + (V 35 (2000 + w9ξ)))) (pc := 39) hx hb (zd_X0_worthInTime (39, .iadd, 1, 0, []) (List.mem_of_getElem? (i := 22) rfl)) (by omega) (zp_r0 (by omega) (by omega)) ?_
            refine zp_store (L' := [(1, 0, ((zc_wt X (fun w => V 34 (2000 + w)) (fun w => V 35 (2000 + w)) w9ξ) + (V 35 (2000 + w9ξ)))), (2, 0, (w9ξ : Int)), (0, 2, (A 5 : Int))]) (pc := 40) hx hb hnLξ (zd_X0_worthInTime (40, .istore_n 1, 1, 0, []) (List.mem_of_getElem? (i := 23) rfl)) rfl rfl rfl ?_
            refine zp_iinc (L' := [(2, 0, ((w9ξ : Int) + 1)), (1, 0, ((zc_wt X (fun w => V 34 (2000 + w)) (fun w => V 35 (2000 + w)) w9ξ) + (V 35 (2000 + w9ξ)))), (0, 2, (A 5 : Int))]) (n := ((w9ξ : Int) + 1)) (pc := 41) hx hb hnLξ (zd_X0_worthInTime (41, .iinc 2 1, 3, 0, []) (List.mem_of_getElem? (i := 24) rfl)) (j := 1) rfl (by omega) (zp_r0 (by omega) (by omega)) rfl rfl ?_
            refine zp_goto (tgt := 4) (pc := 44) hx hb (zd_X0_worthInTime (44, .goto (-40), 3, 0, []) (List.mem_of_getElem? (i := 25) rfl)) rfl ?_
            have ha9ξ : ((zc_wt X (fun w => V 34 (2000 + w)) (fun w => V 35 (2000 + w)) w9ξ) + (V 35 (2000 + w9ξ))) = (zc_wt X (fun w => V 34 (2000 + w)) (fun w => V 35 (2000 + w)) (w9ξ + 1)) := by
              rw [zc_wt]
              by_cases c9ξ : X.2 w9ξ ≠ -1 ∧ X.2 w9ξ ≤ V 34 (2000 + w9ξ)
              · rw [if_pos c9ξ]
                all_goals (have c8 := (Iff.mpr htt648ξ) c9ξ; omega)
              · rw [if_neg c9ξ]
                all_goals (have c8 := fun z => c9ξ ((Iff.mp htt648ξ) z); omega)
            rw [ha9ξ]
            refine zp_drop (L' := [(2, 0, ((w9ξ : Int) + 1)), (1, 0, (zc_wt X (fun w => V 34 (2000 + w)) (fun w => V 35 (2000 + w)) (w9ξ + 1))), (0, 2, (A 5 : Int))]) (by simp) ?_
            exact ih (w9ξ + 1) (by omega)
  refine zp_const (pc := 0) hx hb (zd_X0_worthInTime (0, .iconst 0, 1, 0, []) (List.mem_of_getElem? (i := 0) rfl)) rfl rfl ?_
  refine zp_store (L' := [(1, 0, 0), (0, 2, (A 5 : Int))]) (pc := 1) hx hb hnLξ (zd_X0_worthInTime (1, .istore_n 1, 1, 0, []) (List.mem_of_getElem? (i := 1) rfl)) rfl rfl rfl ?_
  refine zp_const (pc := 2) hx hb (zd_X0_worthInTime (2, .iconst 0, 1, 0, []) (List.mem_of_getElem? (i := 2) rfl)) rfl rfl ?_
  refine zp_store (L' := [(2, 0, 0), (1, 0, 0), (0, 2, (A 5 : Int))]) (pc := 3) hx hb hnLξ (zd_X0_worthInTime (3, .istore_n 2, 1, 0, []) (List.mem_of_getElem? (i := 3) rfl)) rfl rfl rfl ?_
  refine zp_drop (L' := [(2, 0, 0), (1, 0, 0), (0, 2, (A 5 : Int))]) (by simp) ?_
  exact loop n1ξ 0 (by omega)
noncomputable def zK_litd : zk_K := (zt_mn 136, prog_2_method_14_code, 3, (Option.some Jvm.ClassFile.FieldType.int), 1, 0, [(2, 0, 0, 0)], [(some (0, 0, (-2147483648), 2147483647), [])], [], (0, 0, 0, 0))
noncomputable def zφ_litd (A : Nat → Nat) (Y : List (Nat × Nat)) (F : List (Nat × Nat × Nat)) (M : Nat → Nat → Int) (V : Nat → Nat → Int) (X : (Nat → Int) × (Nat → Int)) (n1ξ : Nat) : (Nat → Option Nat) → (Nat → Nat → Int) → List Int → Prop := fun P G ps => zM A Y F M P G ∧ ps.getD 0 0 = (A 5 : Int) ∧ zMc Y F ∧ (∀ o k, zNc o → M o k = V o k) ∧ M 5 1 = (A 1 : Int) ∧ zDX X M ∧ V 1 3 = (n1ξ : Int) ∧ n1ξ ≤ 10
noncomputable def zψ_litd (A : Nat → Nat) (Y : List (Nat × Nat)) (F : List (Nat × Nat × Nat)) (M : Nat → Nat → Int) (V : Nat → Nat → Int) (X : (Nat → Int) × (Nat → Int)) (n1ξ : Nat) : (Nat → Option Nat) → (Nat → Nat → Int) → List Int → (Nat → Option Nat) → (Nat → Nat → Int) → Int → Prop := fun P G ps P' G' rn => P' = P ∧ G' = G ∧ rn = zc_md X (fun w => V 33 (2000 + w)) n1ξ
theorem zX_litd {l : Launch} {w : zk_W} (hWξ : zh_W w) (A : Nat → Nat) (Y : List (Nat × Nat)) (F : List (Nat × Nat × Nat)) (M : Nat → Nat → Int) (V : Nat → Nat → Int) (X : (Nat → Int) × (Nat → Int)) (n1ξ : Nat) : zk_metX l w zt_dv zt_TB zK_litd (zp_A (zφ_litd A Y F M V X n1ξ)) (zp_B (zψ_litd A Y F M V X n1ξ)) ∧ zk_cok w zt_TB zK_litd := by
  refine zp_methX (cn := "WoundTown$Day") zp_lkallDy hWξ (pl := 1130) rfl (by decide +kernel) (fun p e R s m args below meth c Q u hx hb hEξ hQξ hU5ξ heffξ hnLξ hokξ hφ => ?_)
  have hwξ := hWξ.1
  obtain ⟨p0ξ, hpsξ, tk0⟩ := zp_ps1 hokξ
  have hrmξ : zk_Kr (zk_ev (zt_types, zp_lkDy, zt_dv, [], [], zp_lcDy, zK_litd)) = zk_Kr zK_litd := rfl
  rw [hpsξ] at hφ ⊢
  have hφ : zM A Y F M u.1 (zp_n u.2.1) ∧ p0ξ = (A 5 : Int) ∧ zMc Y F ∧ (∀ o k, zNc o → M o k = V o k) ∧ M 5 1 = (A 1 : Int) ∧ zDX X M ∧ V 1 3 = (n1ξ : Int) ∧ n1ξ ≤ 10 := hφ
  obtain ⟨hMξ, rfl, hYFξ, hVξ, h51ξ, hXξ, hn1ξ, hn10ξ⟩ := hφ
  have hYF0ξ := hYFξ
  obtain ⟨hYbξ, hFbξ, hFxξ, -⟩ := hYFξ
  show zp_J p l e R s m args below meth c Q w u [] 0 [(0, 2, (A 5 : Int))] [] u.1 (zp_n u.2.1)
  have loop : ∀ (k9ξ w9ξ : Nat), k9ξ + w9ξ = n1ξ → zp_J p l e R s m args below meth c Q w u [] 4 [(2, 0, (w9ξ : Int)), (1, 0, (zc_md X (fun w => V 33 (2000 + w)) w9ξ)), (0, 2, (A 5 : Int))] [] u.1 (zp_n u.2.1) := by
    intro k9ξ
    induction k9ξ with
    | zero =>
      intro w9ξ hkξ
      have e9ξ : w9ξ = n1ξ := by omega
      rw [e9ξ]
      have hmbξ := zc_mdb (X := X) (mi := (fun w => V 33 (2000 + w))) (w := n1ξ)
      refine zp_load (pc := 4) hx hb (zd_X0_leftInTheMiddle (4, .iload_n 2, 1, 0, []) (List.mem_of_getElem? (i := 4) rfl)) rfl (j := 0) rfl ?_
      refine zp_load (pc := 5) hx hb (zd_X0_leftInTheMiddle (5, .aload_n 0, 1, 0, []) (List.mem_of_getElem? (i := 5) rfl)) rfl (j := 2) rfl ?_
      refine zp_getf (n := (A 1 : Int)) (pc := 6) hx hb hEξ hwξ (zd_X0_leftInTheMiddle (6, .getfield 25, 3, 0, []) (List.mem_of_getElem? (i := 6) rfl)) (j := 18) rfl rfl rfl (zM_P hMξ (hYbξ _ (List.mem_of_getElem? (i := 5) rfl))) ((zM_G hMξ (hYbξ _ (List.mem_of_getElem? (i := 5) rfl)) 1).trans h51ξ) ?_
      refine zp_getf (n := (n1ξ : Int)) (pc := 9) hx hb hEξ hwξ (zd_X0_leftInTheMiddle (9, .getfield 80, 3, 0, []) (List.mem_of_getElem? (i := 7) rfl)) (j := 5) rfl rfl rfl (zM_P hMξ (hYbξ _ (List.mem_of_getElem? (i := 1) rfl))) (((zM_G hMξ (hYbξ _ (List.mem_of_getElem? (i := 1) rfl)) 3).trans (hVξ 1 3 (by decide))).trans hn1ξ) ?_
      refine zp_icmp (pc := 12) (tgt := 60) hx hb (zd_X0_leftInTheMiddle (12, .if_icmp .ge 48, 3, 0, []) (List.mem_of_getElem? (i := 8) rfl)) rfl (fun (hc651ξ : (n1ξ : Int) ≤ (n1ξ : Int)) => ?_) (fun (hc651ξ : ¬ ((n1ξ : Int) ≤ (n1ξ : Int))) => ?_)
      · refine zp_load (pc := 60) hx hb (zd_X0_leftInTheMiddle (60, .iload_n 1, 1, 0, []) (List.mem_of_getElem? (i := 35) rfl)) rfl (j := 1) rfl ?_
        refine zp_iret (pc := 61) (n := (zc_md X (fun w => V 33 (2000 + w)) n1ξ)) hx hb hEξ hQξ hU5ξ rfl (by decide) (zd_X0_leftInTheMiddle (61, .ireturn, 1, 0, []) (List.mem_of_getElem? (i := 36) rfl)) (j := 0) rfl (zp_o0 (by omega) (by omega) (by omega) (by omega)) ?_
        rw [hpsξ]
        refine ⟨rfl, rfl, ?_⟩
        rfl
      · exfalso
        omega
    | succ k9ξ ih =>
      intro w9ξ hkξ
      have hmbξ := zc_mdb (X := X) (mi := (fun w => V 33 (2000 + w))) (w := w9ξ)
      refine zp_load (pc := 4) hx hb (zd_X0_leftInTheMiddle (4, .iload_n 2, 1, 0, []) (List.mem_of_getElem? (i := 4) rfl)) rfl (j := 0) rfl ?_
      refine zp_load (pc := 5) hx hb (zd_X0_leftInTheMiddle (5, .aload_n 0, 1, 0, []) (List.mem_of_getElem? (i := 5) rfl)) rfl (j := 2) rfl ?_
      refine zp_getf (n := (A 1 : Int)) (pc := 6) hx hb hEξ hwξ (zd_X0_leftInTheMiddle (6, .getfield 25, 3, 0, []) (List.mem_of_getElem? (i := 6) rfl)) (j := 18) rfl rfl rfl (zM_P hMξ (hYbξ _ (List.mem_of_getElem? (i := 5) rfl))) ((zM_G hMξ (hYbξ _ (List.mem_of_getElem? (i := 5) rfl)) 1).trans h51ξ) ?_
      refine zp_getf (n := (n1ξ : Int)) (pc := 9) hx hb hEξ hwξ (zd_X0_leftInTheMiddle (9, .getfield 80, 3, 0, []) (List.mem_of_getElem? (i := 7) rfl)) (j := 5) rfl rfl rfl (zM_P hMξ (hYbξ _ (List.mem_of_getElem? (i := 1) rfl))) (((zM_G hMξ (hYbξ _ (List.mem_of_getElem? (i := 1) rfl)) 3).trans (hVξ 1 3 (by decide))).trans hn1ξ) ?_
      refine zp_icmp (pc := 12) (tgt := 60) hx hb (zd_X0_leftInTheMiddle (12, .if_icmp .ge 48, 3, 0, []) (List.mem_of_getElem? (i := 8) rfl)) rfl (fun (hc652ξ : (n1ξ : Int) ≤ (w9ξ : Int)) => ?_) (fun (hc652ξ : ¬ ((n1ξ : Int) ≤ (w9ξ : Int))) => ?_)
      · exfalso
        omega
      · refine zp_load (pc := 15) hx hb (zd_X0_leftInTheMiddle (15, .iload_n 2, 1, 0, []) (List.mem_of_getElem? (i := 9) rfl)) rfl (j := 0) rfl ?_
        refine zp_const (pc := 16) hx hb (zd_X0_leftInTheMiddle (16, .bipush 10, 2, 0, []) (List.mem_of_getElem? (i := 10) rfl)) rfl rfl ?_
        refine zp_icmp (pc := 18) (tgt := 60) hx hb (zd_X0_leftInTheMiddle (18, .if_icmp .ge 42, 3, 0, []) (List.mem_of_getElem? (i := 11) rfl)) rfl (fun (hc653ξ : 10 ≤ (w9ξ : Int)) => ?_) (fun (hc653ξ : ¬ (10 ≤ (w9ξ : Int))) => ?_)
        · exfalso
          omega
        · refine zp_load (pc := 21) hx hb (zd_X0_leftInTheMiddle (21, .aload_n 0, 1, 0, []) (List.mem_of_getElem? (i := 12) rfl)) rfl (j := 2) rfl ?_
          refine zp_getf (n := (A 69 : Int)) (pc := 22) hx hb hEξ hwξ (zd_X0_leftInTheMiddle (22, .getfield 15, 3, 0, []) (List.mem_of_getElem? (i := 13) rfl)) (j := 21) rfl rfl rfl (zM_P hMξ (hYbξ _ (List.mem_of_getElem? (i := 5) rfl))) ((zM_G hMξ (hYbξ _ (List.mem_of_getElem? (i := 5) rfl)) 4).trans (zM_F hMξ (hFbξ _ (List.mem_of_getElem? (i := 45) rfl)))) ?_
          refine zp_load (pc := 25) hx hb (zd_X0_leftInTheMiddle (25, .iload_n 2, 1, 0, []) (List.mem_of_getElem? (i := 14) rfl)) rfl (j := 0) rfl ?_
          refine zp_iald (j := w9ξ) (v := (X.1 w9ξ)) (pc := 26) hx hb hwξ (zd_X0_leftInTheMiddle (26, .iaload, 1, 0, []) (List.mem_of_getElem? (i := 15) rfl)) (show zp_ia 1 15 = some (10, 0, 0, (-2147483648), 2147483647) from rfl) (zM_P hMξ (hYbξ _ (List.mem_of_getElem? (i := 47) rfl))) (by omega) (by omega) ((zM_G hMξ (hYbξ _ (List.mem_of_getElem? (i := 47) rfl)) (2000 + w9ξ)).trans (hXξ w9ξ (by omega)).1) (fun hk654ξ => ?_)
          have hk654bξ := zp_int hk654ξ
          clear hk654ξ
          refine zp_if (pc := 27) (tgt := 54) hx hb (zd_X0_leftInTheMiddle (27, .ifCond .le 27, 3, 0, []) (List.mem_of_getElem? (i := 16) rfl)) rfl (fun (hc655ξ : (X.1 w9ξ) ≤ 0) => ?_) (fun (hc655ξ : ¬ ((X.1 w9ξ) ≤ 0)) => ?_)
          · refine zp_iinc (L' := [(2, 0, ((w9ξ : Int) + 1)), (1, 0, (zc_md X (fun w => V 33 (2000 + w)) w9ξ)), (0, 2, (A 5 : Int))]) (n := ((w9ξ : Int) + 1)) (pc := 54) hx hb hnLξ (zd_X0_leftInTheMiddle (54, .iinc 2 1, 3, 0, []) (List.mem_of_getElem? (i := 33) rfl)) (j := 0) rfl (by omega) (zp_r0 (by omega) (by omega)) rfl rfl ?_
            refine zp_goto (tgt := 4) (pc := 57) hx hb (zd_X0_leftInTheMiddle (57, .goto (-53), 3, 0, []) (List.mem_of_getElem? (i := 34) rfl)) rfl ?_
            have ha9ξ : (zc_md X (fun w => V 33 (2000 + w)) w9ξ) = (zc_md X (fun w => V 33 (2000 + w)) (w9ξ + 1)) := by
              rw [zc_md]
              rw [if_neg (by omega)]
            rw [ha9ξ]
            refine zp_drop (L' := [(2, 0, ((w9ξ : Int) + 1)), (1, 0, (zc_md X (fun w => V 33 (2000 + w)) (w9ξ + 1))), (0, 2, (A 5 : Int))]) (by simp) ?_
            exact ih (w9ξ + 1) (by omega)
          · refine zp_load (pc := 30) hx hb (zd_X0_leftInTheMiddle (30, .aload_n 0, 1, 0, []) (List.mem_of_getElem? (i := 17) rfl)) rfl (j := 2) rfl ?_
            refine zp_getf (n := (A 69 : Int)) (pc := 31) hx hb hEξ hwξ (zd_X0_leftInTheMiddle (31, .getfield 15, 3, 0, []) (List.mem_of_getElem? (i := 18) rfl)) (j := 21) rfl rfl rfl (zM_P hMξ (hYbξ _ (List.mem_of_getElem? (i := 5) rfl))) ((zM_G hMξ (hYbξ _ (List.mem_of_getElem? (i := 5) rfl)) 4).trans (zM_F hMξ (hFbξ _ (List.mem_of_getElem? (i := 45) rfl)))) ?_
            refine zp_load (pc := 34) hx hb (zd_X0_leftInTheMiddle (34, .iload_n 2, 1, 0, []) (List.mem_of_getElem? (i := 19) rfl)) rfl (j := 0) rfl ?_
            refine zp_iald (j := w9ξ) (v := (X.1 w9ξ)) (pc := 35) hx hb hwξ (zd_X0_leftInTheMiddle (35, .iaload, 1, 0, []) (List.mem_of_getElem? (i := 20) rfl)) (show zp_ia 1 15 = some (10, 0, 0, (-2147483648), 2147483647) from rfl) (zM_P hMξ (hYbξ _ (List.mem_of_getElem? (i := 47) rfl))) (by omega) (by omega) ((zM_G hMξ (hYbξ _ (List.mem_of_getElem? (i := 47) rfl)) (2000 + w9ξ)).trans (hXξ w9ξ (by omega)).1) (fun hk656ξ => ?_)
            have hk656bξ := zp_int hk656ξ
            clear hk656ξ
            refine zp_load (pc := 36) hx hb (zd_X0_leftInTheMiddle (36, .aload_n 0, 1, 0, []) (List.mem_of_getElem? (i := 21) rfl)) rfl (j := 2) rfl ?_
            refine zp_getf (n := (A 1 : Int)) (pc := 37) hx hb hEξ hwξ (zd_X0_leftInTheMiddle (37, .getfield 25, 3, 0, []) (List.mem_of_getElem? (i := 22) rfl)) (j := 18) rfl rfl rfl (zM_P hMξ (hYbξ _ (List.mem_of_getElem? (i := 5) rfl))) ((zM_G hMξ (hYbξ _ (List.mem_of_getElem? (i := 5) rfl)) 1).trans h51ξ) ?_
            refine zp_getf (n := (A 33 : Int)) (pc := 40) hx hb hEξ hwξ (zd_X0_leftInTheMiddle (40, .getfield 103, 3, 0, []) (List.mem_of_getElem? (i := 23) rfl)) (j := 7) rfl rfl rfl (zM_P hMξ (hYbξ _ (List.mem_of_getElem? (i := 1) rfl))) ((zM_G hMξ (hYbξ _ (List.mem_of_getElem? (i := 1) rfl)) 5).trans (zM_F hMξ (hFbξ _ (List.mem_of_getElem? (i := 16) rfl)))) ?_
            refine zp_load (pc := 43) hx hb (zd_X0_leftInTheMiddle (43, .iload_n 2, 1, 0, []) (List.mem_of_getElem? (i := 24) rfl)) rfl (j := 0) rfl ?_
            refine zp_iald (j := w9ξ) (v := (V 33 (2000 + w9ξ))) (pc := 44) hx hb hwξ (zd_X0_leftInTheMiddle (44, .iaload, 1, 0, []) (List.mem_of_getElem? (i := 25) rfl)) (show zp_ia 1 45 = some (10, 0, 0, (-2147483648), 2147483647) from rfl) (zM_P hMξ (hYbξ _ (List.mem_of_getElem? (i := 20) rfl))) (by omega) (by omega) ((zM_G hMξ (hYbξ _ (List.mem_of_getElem? (i := 20) rfl)) (2000 + w9ξ)).trans (hVξ 33 (2000 + w9ξ) (by decide))) (fun hk657ξ => ?_)
            have hk657bξ := zp_int hk657ξ
            clear hk657ξ
            refine zp_icmp (pc := 45) (tgt := 54) hx hb (zd_X0_leftInTheMiddle (45, .if_icmp .ge 9, 3, 0, []) (List.mem_of_getElem? (i := 26) rfl)) rfl (fun (hc658ξ : (V 33 (2000 + w9ξ)) ≤ (X.1 w9ξ)) => ?_) (fun (hc658ξ : ¬ ((V 33 (2000 + w9ξ)) ≤ (X.1 w9ξ))) => ?_)
            · refine zp_iinc (L' := [(2, 0, ((w9ξ : Int) + 1)), (1, 0, (zc_md X (fun w => V 33 (2000 + w)) w9ξ)), (0, 2, (A 5 : Int))]) (n := ((w9ξ : Int) + 1)) (pc := 54) hx hb hnLξ (zd_X0_leftInTheMiddle (54, .iinc 2 1, 3, 0, []) (List.mem_of_getElem? (i := 33) rfl)) (j := 0) rfl (by omega) (zp_r0 (by omega) (by omega)) rfl rfl ?_
              refine zp_goto (tgt := 4) (pc := 57) hx hb (zd_X0_leftInTheMiddle (57, .goto (-53), 3, 0, []) (List.mem_of_getElem? (i := 34) rfl)) rfl ?_
              have ha9ξ : (zc_md X (fun w => V 33 (2000 + w)) w9ξ) = (zc_md X (fun w => V 33 (2000 + w)) (w9ξ + 1)) := by
                rw [zc_md]
                rw [if_neg (by omega)]
              rw [ha9ξ]
              refine zp_drop (L' := [(2, 0, ((w9ξ : Int) + 1)), (1, 0, (zc_md X (fun w => V 33 (2000 + w)) (w9ξ + 1))), (0, 2, (A 5 : Int))]) (by simp) ?_
              exact ih (w9ξ + 1) (by omega)
            · refine zp_load (pc := 48) hx hb (zd_X0_leftInTheMiddle (48, .iload_n 1, 1, 0, []) (List.mem_of_getElem? (i := 27) rfl)) rfl (j := 1) rfl ?_
              refine zp_const (pc := 49) hx hb (zd_X0_leftInTheMiddle (49, .iconst 1, 1, 0, []) (List.mem_of_getElem? (i := 28) rfl)) rfl rfl ?_
              refine zp_load (pc := 50) hx hb (zd_X0_leftInTheMiddle (50, .iload_n 2, 1, 0, []) (List.mem_of_getElem? (i := 29) rfl)) rfl (j := 0) rfl ?_
              refine zp_binx (o := 6) (n := (zw_shl 1 (w9ξ : Int))) (pc := 51) hx hb (zd_X0_leftInTheMiddle (51, .ishl, 1, 0, []) (List.mem_of_getElem? (i := 30) rfl)) rfl (by decide) rfl ?_
              have hw659ξ := zw_shlb 1 (w9ξ : Int)
              refine zp_binx (o := 4) (n := (zw_or (zc_md X (fun w => V 33 (2000 + w)) w9ξ) (zw_shl 1 (w9ξ : Int)))) (pc := 52) hx hb (zd_X0_leftInTheMiddle (52, .ior, 1, 0, []) (List.mem_of_getElem? (i := 31) rfl)) rfl (by decide) rfl ?_
              have hw660ξ := zw_orb (zc_md X (fun w => V 33 (2000 + w)) w9ξ) (zw_shl 1 (w9ξ : Int))
              refine zp_store (L' := [(1, 0, (zw_or (zc_md X (fun w => V 33 (2000 + w)) w9ξ) (zw_shl 1 (w9ξ : Int)))), (2, 0, (w9ξ : Int)), (0, 2, (A 5 : Int))]) (pc := 53) hx hb hnLξ (zd_X0_leftInTheMiddle (53, .istore_n 1, 1, 0, []) (List.mem_of_getElem? (i := 32) rfl)) rfl rfl rfl ?_
              refine zp_iinc (L' := [(2, 0, ((w9ξ : Int) + 1)), (1, 0, (zw_or (zc_md X (fun w => V 33 (2000 + w)) w9ξ) (zw_shl 1 (w9ξ : Int)))), (0, 2, (A 5 : Int))]) (n := ((w9ξ : Int) + 1)) (pc := 54) hx hb hnLξ (zd_X0_leftInTheMiddle (54, .iinc 2 1, 3, 0, []) (List.mem_of_getElem? (i := 33) rfl)) (j := 1) rfl (by omega) (zp_r0 (by omega) (by omega)) rfl rfl ?_
              refine zp_goto (tgt := 4) (pc := 57) hx hb (zd_X0_leftInTheMiddle (57, .goto (-53), 3, 0, []) (List.mem_of_getElem? (i := 34) rfl)) rfl ?_
              have ha9ξ : (zw_or (zc_md X (fun w => V 33 (2000 + w)) w9ξ) (zw_shl 1 (w9ξ : Int))) = (zc_md X (fun w => V 33 (2000 + w)) (w9ξ + 1)) := by
                rw [zc_md]
                rw [if_pos ⟨by omega, by omega⟩]
              rw [ha9ξ]
              refine zp_drop (L' := [(2, 0, ((w9ξ : Int) + 1)), (1, 0, (zc_md X (fun w => V 33 (2000 + w)) (w9ξ + 1))), (0, 2, (A 5 : Int))]) (by simp) ?_
              exact ih (w9ξ + 1) (by omega)
  refine zp_const (pc := 0) hx hb (zd_X0_leftInTheMiddle (0, .iconst 0, 1, 0, []) (List.mem_of_getElem? (i := 0) rfl)) rfl rfl ?_
  refine zp_store (L' := [(1, 0, 0), (0, 2, (A 5 : Int))]) (pc := 1) hx hb hnLξ (zd_X0_leftInTheMiddle (1, .istore_n 1, 1, 0, []) (List.mem_of_getElem? (i := 1) rfl)) rfl rfl rfl ?_
  refine zp_const (pc := 2) hx hb (zd_X0_leftInTheMiddle (2, .iconst 0, 1, 0, []) (List.mem_of_getElem? (i := 2) rfl)) rfl rfl ?_
  refine zp_store (L' := [(2, 0, 0), (1, 0, 0), (0, 2, (A 5 : Int))]) (pc := 3) hx hb hnLξ (zd_X0_leftInTheMiddle (3, .istore_n 2, 1, 0, []) (List.mem_of_getElem? (i := 3) rfl)) rfl rfl rfl ?_
  refine zp_drop (L' := [(2, 0, 0), (1, 0, 0), (0, 2, (A 5 : Int))]) (by simp) ?_
  exact loop n1ξ 0 (by omega)
theorem zc_an_t {s : Nat → Int} {p : Nat} : ∀ {n : Nat}, p < n → 0 < s p → zc_an s n = true
  | 0, h, _ => absurd h (Nat.not_lt_zero _)
  | n + 1, h, h2ξ => by
    rw [zc_an]
    by_cases e : p = n
    · rw [← e, decide_eq_true h2ξ, Bool.or_true]
    · rw [zc_an_t (n := n) (by omega) h2ξ, Bool.true_or]
noncomputable def zK_sfrd : zk_K := (zt_mn 133, prog_2_method_9_code, 3, (Option.some Jvm.ClassFile.FieldType.int), 1, 0, [(2, 0, 0, 0)], [(some (0, 0, (-2147483648), 2147483647), [])], [(27, 1001, 0), (28, 1001, 0)], (4, 240, 0, 0))
noncomputable def zφ_sfrd (A : Nat → Nat) (Y : List (Nat × Nat)) (F : List (Nat × Nat × Nat)) (M : Nat → Nat → Int) (V : Nat → Nat → Int) (n1ξ npξ : Nat) (t0ξ : Int) (Lwξ : List yK) (X : (Nat → Int) × (Nat → Int)) : (Nat → Option Nat) → (Nat → Nat → Int) → List Int → Prop := fun P G ps => zM A Y F M P G ∧ ps.getD 0 0 = (A 5 : Int) ∧ zMc Y F ∧ (∀ o k, zNc o → M o k = V o k) ∧ zDst A Y F V Lwξ 2 50 t0ξ X M ∧ zc_ok V 2 50 n1ξ npξ ∧ 0 ≤ t0ξ ∧ t0ξ ≤ 12
noncomputable def zψ_sfrd (A : Nat → Nat) (Y : List (Nat × Nat)) (F : List (Nat × Nat × Nat)) (M : Nat → Nat → Int) (V : Nat → Nat → Int) (n1ξ npξ : Nat) (t0ξ : Int) (Lwξ : List yK) (X : (Nat → Int) × (Nat → Int)) : (Nat → Option Nat) → (Nat → Nat → Int) → List Int → (Nat → Option Nat) → (Nat → Nat → Int) → Int → Prop := fun P G ps P' G' rn => P' = P ∧ ∃ M' : Nat → Nat → Int, zM A Y F M' P' G' ∧ (∀ o k, zNc o → M' o k = V o k) ∧ rn = zc_sf (fun h p => zd_sp (zRc V 2 50) Lwξ t0ξ (zd_pw (zd_ru (zRc V 2 50) Lwξ t0ξ) t0ξ h) h p) npξ 24
theorem zX_sfrd {l : Launch} {w : zk_W} (hWξ : zh_W w) (A : Nat → Nat) (Y : List (Nat × Nat)) (F : List (Nat × Nat × Nat)) (M : Nat → Nat → Int) (V : Nat → Nat → Int) (n1ξ npξ : Nat) (t0ξ : Int) (Lwξ : List yK) (X : (Nat → Int) × (Nat → Int)) : zk_metX l w zt_dv zt_TB zK_sfrd (zp_A (zφ_sfrd A Y F M V n1ξ npξ t0ξ Lwξ X)) (zp_B (zψ_sfrd A Y F M V n1ξ npξ t0ξ Lwξ X)) ∧ zk_cok w zt_TB zK_sfrd := by
  refine zp_methX (cn := "WoundTown$Day") zp_lkallDy hWξ (pl := 1117) rfl (by decide +kernel) (fun p e R s m args below meth c Q u hx hb hEξ hQξ hU5ξ heffξ hnLξ hokξ hφ => ?_)
  have hwξ := hWξ.1
  obtain ⟨p0ξ, hpsξ, tk0⟩ := zp_ps1 hokξ
  have hrmξ : zk_Kr (zk_ev (zt_types, zp_lkDy, zt_dv, [], [], zp_lcDy, zK_sfrd)) = zk_Kr zK_sfrd := rfl
  rw [hpsξ] at hφ ⊢
  have hφ : zM A Y F M u.1 (zp_n u.2.1) ∧ p0ξ = (A 5 : Int) ∧ zMc Y F ∧ (∀ o k, zNc o → M o k = V o k) ∧ zDst A Y F V Lwξ 2 50 t0ξ X M ∧ zc_ok V 2 50 n1ξ npξ ∧ 0 ≤ t0ξ ∧ t0ξ ≤ 12 := hφ
  obtain ⟨hMξ, rfl, hYFξ, hV0ξ, hDs0ξ, hokξ, ht0ξ, ht12ξ⟩ := hφ
  have hYF0ξ := hYFξ
  obtain ⟨hYbξ, hFbξ, hFxξ, -⟩ := hYFξ
  show zp_J p l e R s m args below meth c Q w u [] 0 [(0, 2, (A 5 : Int))] [] u.1 (zp_n u.2.1)
  have hM00ξ := hMξ
  obtain ⟨hn10ξ, hnp6ξ, hn1ξ, hnpξ, hDwξ, hDpξ⟩ := hokξ.1
  have hn1ξ : V 1 3 = (n1ξ : Int) := hn1ξ
  have hnpξ : V 1 1 = (npξ : Int) := hnpξ
  have hsbxξ := zc_sfb (sp := (fun h p => zd_sp (zRc V 2 50) Lwξ t0ξ (zd_pw (zd_ru (zRc V 2 50) Lwξ t0ξ) t0ξ h) h p)) (npξ := npξ) (h := 24)
  have loop : ∀ (h9ξ : Nat) (M : Nat → Nat → Int) (G : Nat → Nat → Int), h9ξ ≤ 24 → zc_sf (fun h p => zd_sp (zRc V 2 50) Lwξ t0ξ (zd_pw (zd_ru (zRc V 2 50) Lwξ t0ξ) t0ξ h) h p) npξ 24 = zc_sf (fun h p => zd_sp (zRc V 2 50) Lwξ t0ξ (zd_pw (zd_ru (zRc V 2 50) Lwξ t0ξ) t0ξ h) h p) npξ h9ξ → zM A Y F M u.1 G → (∀ o k, zNc o → M o k = V o k) → zDst A Y F V Lwξ 2 50 t0ξ X M → zp_J p l e R s m args below meth c Q w u [] 3 [(1, 0, ((h9ξ : Int) - 1)), (0, 2, (A 5 : Int))] [] u.1 G := by
    intro h9ξ
    induction h9ξ with
    | zero =>
      intro M G hhξ hzξ hMξ hVξ hDsξ
      show zp_J p l e R s m args below meth c Q w u [] 3 [(1, 0, (-1)), (0, 2, (A 5 : Int))] [] u.1 G
      refine zp_load (pc := 3) hx hb (zd_X0_standsFrom (3, .iload_n 1, 1, 0, []) (List.mem_of_getElem? (i := 2) rfl)) rfl (j := 0) rfl ?_
      refine zp_if (pc := 4) (tgt := 45) hx hb (zd_X0_standsFrom (4, .ifCond .lt 41, 3, 0, []) (List.mem_of_getElem? (i := 3) rfl)) rfl (fun (hc661ξ : (-1 : Int) < 0) => ?_) (fun (hc661ξ : ¬ ((-1 : Int) < 0)) => ?_)
      · refine zp_const (pc := 45) hx hb (zd_X0_standsFrom (45, .iconst 0, 1, 0, []) (List.mem_of_getElem? (i := 24) rfl)) rfl rfl ?_
        refine zp_iret (pc := 46) (n := 0) hx hb hEξ hQξ hU5ξ rfl (by decide) (zd_X0_standsFrom (46, .ireturn, 1, 0, []) (List.mem_of_getElem? (i := 25) rfl)) (j := 0) rfl (zp_o0 (by omega) (by omega) (by omega) (by omega)) ?_
        rw [hpsξ]
        refine ⟨rfl, M, hMξ, ?_⟩
        exact ⟨hVξ, (Eq.symm hzξ)⟩
      · exfalso
        omega
    | succ h8ξ ih =>
      intro M G hhξ hzξ hMξ hVξ hDsξ
      obtain ⟨h9ξ, e9ξ⟩ : ∃ h9ξ, h9ξ = h8ξ + 1 := ⟨_, rfl⟩
      rw [← e9ξ] at hzξ ⊢
      have loopp : ∀ (r9ξ p9ξ : Nat) (M : Nat → Nat → Int) (G : Nat → Nat → Int), r9ξ + p9ξ = npξ → zc_an (fun p => zd_sp (zRc V 2 50) Lwξ t0ξ (zd_pw (zd_ru (zRc V 2 50) Lwξ t0ξ) t0ξ h8ξ) h8ξ p) p9ξ = false → zM A Y F M u.1 G → (∀ o k, zNc o → M o k = V o k) → zDst A Y F V Lwξ 2 50 t0ξ X M → zp_J p l e R s m args below meth c Q w u [] 9 [(2, 0, (p9ξ : Int)), (1, 0, ((h9ξ : Int) - 1)), (0, 2, (A 5 : Int))] [] u.1 G := by
        intro r9ξ
        induction r9ξ with
        | zero =>
          intro p9ξ M G hrξ haξ hMξ hVξ hDsξ
          have e8 : p9ξ = npξ := by omega
          rw [e8] at haξ ⊢
          have hDskξ := hDsξ
          obtain ⟨hAbξ, ⟨h51ξ, h52ξ⟩, hpwξ, hXξ⟩ := hDsξ
          refine zp_load (pc := 9) hx hb (zd_X0_standsFrom (9, .iload_n 2, 1, 0, []) (List.mem_of_getElem? (i := 6) rfl)) rfl (j := 0) rfl ?_
          refine zp_load (pc := 10) hx hb (zd_X0_standsFrom (10, .aload_n 0, 1, 0, []) (List.mem_of_getElem? (i := 7) rfl)) rfl (j := 2) rfl ?_
          refine zp_getf (n := (A 1 : Int)) (pc := 11) hx hb hEξ hwξ (zd_X0_standsFrom (11, .getfield 25, 3, 0, []) (List.mem_of_getElem? (i := 8) rfl)) (j := 18) rfl rfl rfl (zM_P hMξ (hYbξ _ (List.mem_of_getElem? (i := 5) rfl))) ((zM_G hMξ (hYbξ _ (List.mem_of_getElem? (i := 5) rfl)) 1).trans h51ξ) ?_
          refine zp_getf (n := (npξ : Int)) (pc := 14) hx hb hEξ hwξ (zd_X0_standsFrom (14, .getfield 87, 3, 0, []) (List.mem_of_getElem? (i := 9) rfl)) (j := 4) rfl rfl rfl (zM_P hMξ (hYbξ _ (List.mem_of_getElem? (i := 1) rfl))) (((zM_G hMξ (hYbξ _ (List.mem_of_getElem? (i := 1) rfl)) 1).trans (hVξ 1 1 (by decide))).trans hnpξ) ?_
          refine zp_icmp (pc := 17) (tgt := 39) hx hb (zd_X0_standsFrom (17, .if_icmp .ge 22, 3, 0, []) (List.mem_of_getElem? (i := 10) rfl)) rfl (fun (hc662ξ : (npξ : Int) ≤ (npξ : Int)) => ?_) (fun (hc662ξ : ¬ ((npξ : Int) ≤ (npξ : Int))) => ?_)
          · refine zp_iinc (L' := [(1, 0, ((h9ξ : Int) - 2)), (2, 0, (npξ : Int)), (0, 2, (A 5 : Int))]) (n := ((h9ξ : Int) - 2)) (pc := 39) hx hb hnLξ (zd_X0_standsFrom (39, .iinc 1 (-1), 3, 0, []) (List.mem_of_getElem? (i := 22) rfl)) (j := 1) rfl (by omega) (zp_r0 (by omega) (by omega)) rfl rfl ?_
            refine zp_goto (tgt := 3) (pc := 42) hx hb (zd_X0_standsFrom (42, .goto (-39), 3, 0, []) (List.mem_of_getElem? (i := 23) rfl)) rfl ?_
            have hl9ξ : ((h9ξ : Int) - 2) = ((h8ξ : Int) - 1) := by omega
            rw [hl9ξ]
            refine zp_drop (L' := [(1, 0, ((h8ξ : Int) - 1)), (0, 2, (A 5 : Int))]) (by simp) ?_
            refine ih M G (by omega) ((Eq.trans hzξ) ?_) hMξ hVξ hDskξ
            rw [e9ξ, zc_sf]
            rw [if_neg]
            intro z9ξ
            rw [haξ] at z9ξ
            exact absurd z9ξ (by decide)
          · exfalso
            omega
        | succ r9ξ ihp =>
          intro p9ξ M G hrξ haξ hMξ hVξ hDsξ
          have hDskξ := hDsξ
          obtain ⟨hAbξ, ⟨h51ξ, h52ξ⟩, hpwξ, hXξ⟩ := hDsξ
          refine zp_load (pc := 9) hx hb (zd_X0_standsFrom (9, .iload_n 2, 1, 0, []) (List.mem_of_getElem? (i := 6) rfl)) rfl (j := 0) rfl ?_
          refine zp_load (pc := 10) hx hb (zd_X0_standsFrom (10, .aload_n 0, 1, 0, []) (List.mem_of_getElem? (i := 7) rfl)) rfl (j := 2) rfl ?_
          refine zp_getf (n := (A 1 : Int)) (pc := 11) hx hb hEξ hwξ (zd_X0_standsFrom (11, .getfield 25, 3, 0, []) (List.mem_of_getElem? (i := 8) rfl)) (j := 18) rfl rfl rfl (zM_P hMξ (hYbξ _ (List.mem_of_getElem? (i := 5) rfl))) ((zM_G hMξ (hYbξ _ (List.mem_of_getElem? (i := 5) rfl)) 1).trans h51ξ) ?_
          refine zp_getf (n := (npξ : Int)) (pc := 14) hx hb hEξ hwξ (zd_X0_standsFrom (14, .getfield 87, 3, 0, []) (List.mem_of_getElem? (i := 9) rfl)) (j := 4) rfl rfl rfl (zM_P hMξ (hYbξ _ (List.mem_of_getElem? (i := 1) rfl))) (((zM_G hMξ (hYbξ _ (List.mem_of_getElem? (i := 1) rfl)) 1).trans (hVξ 1 1 (by decide))).trans hnpξ) ?_
          refine zp_icmp (pc := 17) (tgt := 39) hx hb (zd_X0_standsFrom (17, .if_icmp .ge 22, 3, 0, []) (List.mem_of_getElem? (i := 10) rfl)) rfl (fun (hc663ξ : (npξ : Int) ≤ (p9ξ : Int)) => ?_) (fun (hc663ξ : ¬ ((npξ : Int) ≤ (p9ξ : Int))) => ?_)
          · exfalso
            omega
          · refine zp_load (pc := 20) hx hb (zd_X0_standsFrom (20, .aload_n 0, 1, 0, []) (List.mem_of_getElem? (i := 11) rfl)) rfl (j := 2) rfl ?_
            refine zp_load (pc := 21) hx hb (zd_X0_standsFrom (21, .iload_n 1, 1, 0, []) (List.mem_of_getElem? (i := 12) rfl)) rfl (j := 1) rfl ?_
            refine zp_load (pc := 22) hx hb (zd_X0_standsFrom (22, .iload_n 2, 1, 0, []) (List.mem_of_getElem? (i := 13) rfl)) rfl (j := 0) rfl ?_
            refine zp_call (pc := 23) (how := 0) (idx := 129) (mi := 129) (S := []) hx hb hEξ hwξ heffξ hrmξ (zX_spd2 hWξ A Y F M V n1ξ npξ t0ξ Lwξ X) rfl (j := 13) rfl rfl (by decide +kernel) (zd_X0_standsFrom (23, .invokevirtual 129, 3, 0, []) (List.mem_of_getElem? (i := 14) rfl)) [(A 5 : Int), ((h9ξ : Int) - 1), (p9ξ : Int)] rfl ⟨zp_o2 (zM_P hMξ (hYbξ _ (List.mem_of_getElem? (i := 5) rfl))), zp_o0 (by omega) (by omega) (by omega) (by omega), zp_o0 (by omega) (by omega) (by omega) (by omega), trivial⟩ (Nat.le_of_ble_eq_true rfl) ⟨hMξ, rfl, hYF0ξ, hVξ, hDskξ, hokξ, ht0ξ, ht12ξ⟩ (fun al halξ rnsp Psp Gsp hextspξ hfrspξ hokspξ hcsspξ hpsispξ => ?_)
            obtain rfl := List.mem_singleton.mp halξ
            have hrspξ := zp_int (hokspξ _ rfl).1
            obtain ⟨hPespξ, Msp, hMspξ, htspξ⟩ := hpsispξ
            subst hPespξ
            have hrsξ : rnsp = (zd_sp (zRc V 2 50) Lwξ t0ξ (zd_pw (zd_ru (zRc V 2 50) Lwξ t0ξ) t0ξ h8ξ) h8ξ p9ξ) := by
              have h7ξ : rnsp = (if (0 ≤ ((h9ξ : Int) - 1) ∧ ((h9ξ : Int) - 1) ≤ 23) ∧ (0 ≤ (p9ξ : Int) ∧ (p9ξ : Int) < V 1 1 ∧ (p9ξ : Int) < 6) then zd_sp (zRc V 2 50) Lwξ t0ξ (zd_pw (zd_ru (zRc V 2 50) Lwξ t0ξ) t0ξ ((h9ξ : Int) - 1).toNat) ((h9ξ : Int) - 1).toNat (p9ξ : Int).toNat else 0) := htspξ.2.2
              rw [h7ξ, hnpξ, if_pos ⟨by omega, by omega⟩, show (((h9ξ : Int) - 1) : Int).toNat = h8ξ by omega, show ((p9ξ : Int) : Int).toNat = p9ξ by omega]
            rw [hrsξ]
            have hspbξ := zd_spb (R := (zRc V 2 50)) (L := Lwξ) (t := t0ξ) (pw := zd_pw (zd_ru (zRc V 2 50) Lwξ t0ξ) t0ξ h8ξ) (h := h8ξ) (p := p9ξ)
            refine zp_if (pc := 26) (tgt := 33) hx hb (zd_X0_standsFrom (26, .ifCond .le 7, 3, 0, []) (List.mem_of_getElem? (i := 15) rfl)) rfl (fun (hc664ξ : (zd_sp (zRc V 2 50) Lwξ t0ξ (zd_pw (zd_ru (zRc V 2 50) Lwξ t0ξ) t0ξ h8ξ) h8ξ p9ξ) ≤ 0) => ?_) (fun (hc664ξ : ¬ ((zd_sp (zRc V 2 50) Lwξ t0ξ (zd_pw (zd_ru (zRc V 2 50) Lwξ t0ξ) t0ξ h8ξ) h8ξ p9ξ) ≤ 0)) => ?_)
            · refine zp_iinc (L' := [(2, 0, ((p9ξ : Int) + 1)), (1, 0, ((h9ξ : Int) - 1)), (0, 2, (A 5 : Int))]) (n := ((p9ξ : Int) + 1)) (pc := 33) hx hb hnLξ (zd_X0_standsFrom (33, .iinc 2 1, 3, 0, []) (List.mem_of_getElem? (i := 20) rfl)) (j := 0) rfl (by omega) (zp_r0 (by omega) (by omega)) rfl rfl ?_
              refine zp_goto (tgt := 9) (pc := 36) hx hb (zd_X0_standsFrom (36, .goto (-27), 3, 0, []) (List.mem_of_getElem? (i := 21) rfl)) rfl ?_
              refine zp_drop (L' := [(2, 0, ((p9ξ : Int) + 1)), (1, 0, ((h9ξ : Int) - 1)), (0, 2, (A 5 : Int))]) (by simp) ?_
              refine ihp (p9ξ + 1) Msp Gsp (by omega) ?_ hMspξ htspξ.1 htspξ.2.1
              rw [zc_an, haξ, decide_eq_false (show ¬ 0 < (zd_sp (zRc V 2 50) Lwξ t0ξ (zd_pw (zd_ru (zRc V 2 50) Lwξ t0ξ) t0ξ h8ξ) h8ξ p9ξ) by omega)]
              rfl
            · refine zp_load (pc := 29) hx hb (zd_X0_standsFrom (29, .iload_n 1, 1, 0, []) (List.mem_of_getElem? (i := 16) rfl)) rfl (j := 1) rfl ?_
              refine zp_const (pc := 30) hx hb (zd_X0_standsFrom (30, .iconst 1, 1, 0, []) (List.mem_of_getElem? (i := 17) rfl)) rfl rfl ?_
              refine zp_add (n := (h9ξ : Int)) (pc := 31) hx hb (zd_X0_standsFrom (31, .iadd, 1, 0, []) (List.mem_of_getElem? (i := 18) rfl)) (by omega) (zp_r0 (by omega) (by omega)) ?_
              refine zp_iret (pc := 32) (n := (h9ξ : Int)) hx hb hEξ hQξ hU5ξ rfl (by decide) (zd_X0_standsFrom (32, .ireturn, 1, 0, []) (List.mem_of_getElem? (i := 19) rfl)) (j := 0) rfl (zp_o0 (by omega) (by omega) (by omega) (by omega)) ?_
              rw [hpsξ]
              refine ⟨rfl, Msp, hMspξ, ?_⟩
              refine ⟨htspξ.1, ?_⟩
              refine Eq.trans ?_ (Eq.symm hzξ)
              rw [e9ξ, zc_sf, if_pos]
              · omega
              · have h7ξ := zc_an_t (s := fun p => zd_sp (zRc V 2 50) Lwξ t0ξ (zd_pw (zd_ru (zRc V 2 50) Lwξ t0ξ) t0ξ h8ξ) h8ξ p) (n := npξ) (p := p9ξ) (by omega) (by show 0 < (zd_sp (zRc V 2 50) Lwξ t0ξ (zd_pw (zd_ru (zRc V 2 50) Lwξ t0ξ) t0ξ h8ξ) h8ξ p9ξ); omega)
                exact h7ξ
      refine zp_load (pc := 3) hx hb (zd_X0_standsFrom (3, .iload_n 1, 1, 0, []) (List.mem_of_getElem? (i := 2) rfl)) rfl (j := 0) rfl ?_
      refine zp_if (pc := 4) (tgt := 45) hx hb (zd_X0_standsFrom (4, .ifCond .lt 41, 3, 0, []) (List.mem_of_getElem? (i := 3) rfl)) rfl (fun (hc665ξ : ((h9ξ : Int) - 1) < 0) => ?_) (fun (hc665ξ : ¬ (((h9ξ : Int) - 1) < 0)) => ?_)
      · exfalso
        omega
      · refine zp_const (pc := 7) hx hb (zd_X0_standsFrom (7, .iconst 0, 1, 0, []) (List.mem_of_getElem? (i := 4) rfl)) rfl rfl ?_
        refine zp_store (L' := [(2, 0, 0), (1, 0, ((h9ξ : Int) - 1)), (0, 2, (A 5 : Int))]) (pc := 8) hx hb hnLξ (zd_X0_standsFrom (8, .istore_n 2, 1, 0, []) (List.mem_of_getElem? (i := 5) rfl)) rfl rfl rfl ?_
        refine zp_drop (L' := [(2, 0, 0), (1, 0, ((h9ξ : Int) - 1)), (0, 2, (A 5 : Int))]) (by simp) ?_
        exact loopp npξ 0 M G (by omega) rfl hMξ hVξ hDsξ
  refine zp_const (pc := 0) hx hb (zd_X0_standsFrom (0, .bipush 23, 2, 0, []) (List.mem_of_getElem? (i := 0) rfl)) rfl rfl ?_
  refine zp_store (L' := [(1, 0, 23), (0, 2, (A 5 : Int))]) (pc := 2) hx hb hnLξ (zd_X0_standsFrom (2, .istore_n 1, 1, 0, []) (List.mem_of_getElem? (i := 1) rfl)) rfl rfl rfl ?_
  refine zp_drop (L' := [(1, 0, 23), (0, 2, (A 5 : Int))]) (by simp) ?_
  exact loop 24 M _ (by omega) rfl hM00ξ hV0ξ hDs0ξ
noncomputable def zf_dayc (V : Nat → Nat → Int) (n1ξ npξ : Nat) (Lwξ : List yK) (p1ξ : Int) (p2ξ : Int) : Int × (Nat → Nat → Int) := if 0 ≤ p1ξ ∧ p1ξ ≤ 12 then if p2ξ = 0 then ((zc_sf (fun h p => zd_sp (zRc V 2 50) Lwξ p1ξ (zd_pw (zd_ru (zRc V 2 50) Lwξ p1ξ) p1ξ h) h p) npξ 24), V) else if p2ξ = 1 then ((zc_wt (zc_X V 2 50 n1ξ npξ Lwξ p1ξ) (fun w => V 34 (2000 + w)) (fun w => V 35 (2000 + w)) n1ξ), V) else if p2ξ = 2 then ((zc_md (zc_X V 2 50 n1ξ npξ Lwξ p1ξ) (fun w => V 33 (2000 + w)) n1ξ), V) else ((-1), V) else ((-1), V)
noncomputable def zK_dayc : zk_K := (zt_mn 132, prog_1_method_33_code, 3, (Option.some Jvm.ClassFile.FieldType.int), 1, 11, [(2, 12, 0, 0), (0, 0, (-2147483648), 2147483647), (0, 0, (-2147483648), 2147483647)], [(some (0, 0, (-2147483648), 2147483647), [])], zUC, (6, 360, 0, 0))
noncomputable def zφ_dayc (A : Nat → Nat) (Y : List (Nat × Nat)) (F : List (Nat × Nat × Nat)) (V : Nat → Nat → Int) (n1ξ npξ : Nat) (Lwξ : List yK) : (Nat → Option Nat) → (Nat → Nat → Int) → List Int → Prop := fun P G ps => zMVc A Y F V P G ∧ ps.getD 0 0 = (A 0 : Int) ∧ zMc Y F ∧ zLF A Y F V Lwξ ∧ zc_ok V 2 50 n1ξ npξ ∧ ∀ w, w < n1ξ → 0 ≤ V 35 (2000 + w) ∧ V 35 (2000 + w) ≤ 1000
noncomputable def zψ_dayc (A : Nat → Nat) (Y : List (Nat × Nat)) (F : List (Nat × Nat × Nat)) (V : Nat → Nat → Int) (n1ξ npξ : Nat) (Lwξ : List yK) : (Nat → Option Nat) → (Nat → Nat → Int) → List Int → (Nat → Option Nat) → (Nat → Nat → Int) → Int → Prop := fun P G ps P' G' rn => P' = P ∧ zMVc A Y F (zf_dayc V n1ξ npξ Lwξ (ps.getD 1 0) (ps.getD 2 0)).2 P' G' ∧ rn = (zf_dayc V n1ξ npξ Lwξ (ps.getD 1 0) (ps.getD 2 0)).1
theorem zX_dayc {l : Launch} {w : zk_W} (hWξ : zh_W w) (A : Nat → Nat) (Y : List (Nat × Nat)) (F : List (Nat × Nat × Nat)) (V : Nat → Nat → Int) (n1ξ npξ : Nat) (Lwξ : List yK) : zk_metX l w zt_dv zt_TB zK_dayc (zp_A (zφ_dayc A Y F V n1ξ npξ Lwξ)) (zp_B (zψ_dayc A Y F V n1ξ npξ Lwξ)) ∧ zk_cok w zt_TB zK_dayc := by
  refine zp_methX (cn := "WoundTown") zp_lkallW hWξ (pl := 1113) rfl (by decide +kernel) (fun p e R s m args below meth c Q u hx hb hEξ hQξ hU5ξ heffξ hnLξ hokξ hφ => ?_)
  have hwξ := hWξ.1
  obtain ⟨p0ξ, p1ξ, p2ξ, hpsξ, tk0, tk1, tk2⟩ := zp_ps3 hokξ
  have hrmξ : zk_Kr (zk_ev (zt_types, zp_lkW, zt_dv, [], [], zp_lcW, zK_dayc)) = zk_Kr zK_dayc := rfl
  rw [hpsξ] at hφ ⊢
  have hφ : zMVc A Y F V u.1 (zp_n u.2.1) ∧ p0ξ = (A 0 : Int) ∧ zMc Y F ∧ zLF A Y F V Lwξ ∧ zc_ok V 2 50 n1ξ npξ ∧ ∀ w, w < n1ξ → 0 ≤ V 35 (2000 + w) ∧ V 35 (2000 + w) ≤ 1000 := hφ
  obtain ⟨⟨M, hMξ, hVξ, hSbξ⟩, rfl, hYFξ, hlwξ, hokξ, hwoξ⟩ := hφ
  have hYF0ξ := hYFξ
  obtain ⟨hYbξ, hFbξ, hFxξ, -⟩ := hYFξ
  have hi1ξ := zp_int tk1
  have hi2ξ := zp_int tk2
  show zp_J p l e R s m args below meth c Q w u [] 0 [(0, 2, (A 0 : Int)), (1, 0, p1ξ), (2, 0, p2ξ)] [] u.1 (zp_n u.2.1)
  refine zp_load (pc := 0) hx hb (zd_X11_day (0, .iload_n 1, 1, 0, []) (List.mem_of_getElem? (i := 0) rfl)) rfl (j := 1) rfl ?_
  refine zp_call (pc := 1) (how := 1) (idx := 292) (mi := 86) (S := []) hx hb hEξ hwξ heffξ hrmξ (zX_art hWξ) rfl (j := 31) rfl rfl (by decide +kernel) (zd_X11_day (1, .invokestatic 292, 3, 0, []) (List.mem_of_getElem? (i := 1) rfl)) [p1ξ] rfl ⟨zp_o0 (by omega) (by omega) (by omega) (by omega), trivial⟩ (Nat.le_of_ble_eq_true rfl) trivial (fun al halξ rnn666ξ Pn666 Gn666 hextn666ξ hfrn666ξ hokn666ξ hcsn666ξ hpsin666ξ => ?_)
  obtain rfl := List.mem_singleton.mp halξ
  have hrn666ξ := zp_int (hokn666ξ _ rfl).1
  obtain ⟨hPen666ξ, hGen666ξ, htn666ξ⟩ := hpsin666ξ
  rw [hPen666ξ, hGen666ξ]
  clear hextn666ξ hfrn666ξ hcsn666ξ hPen666ξ hGen666ξ
  have htn666ξ : rnn666ξ = 1 ↔ 0 ≤ p1ξ ∧ p1ξ ≤ 12 := htn666ξ
  refine zp_if (pc := 4) (tgt := 9) hx hb (zd_X11_day (4, .ifCond .ne 5, 3, 0, []) (List.mem_of_getElem? (i := 2) rfl)) rfl (fun (hc667ξ : ¬ rnn666ξ = 0) => ?_) (fun (hc667ξ : ¬ (¬ rnn666ξ = 0)) => ?_)
  · have hbt668ξ := (Iff.mp htn666ξ) (by omega)
    refine zp_load (pc := 9) hx hb (zd_X11_day (9, .iload_n 2, 1, 0, []) (List.mem_of_getElem? (i := 5) rfl)) rfl (j := 2) rfl ?_
    by_cases hc670ξ : p2ξ = 0
    · refine zp_tin (tgt := 36) (off := 26) (pc := 10) hx hb (zd_X11_day (10, .tableswitch 107 0 2 #[26, 53, 80], 26, 0, []) (List.mem_of_getElem? (i := 6) rfl)) (by rw [hc670ξ]; decide) (by rw [hc670ξ]; decide) (by rw [hc670ξ]; decide) rfl ?_
      refine zp_load (pc := 36) hx hb (zd_X11_day (36, .aload_n 0, 1, 0, []) (List.mem_of_getElem? (i := 7) rfl)) rfl (j := 0) rfl ?_
      refine zp_getf (n := (A 5 : Int)) (pc := 37) hx hb hEξ hwξ (zd_X11_day (37, .getfield 39, 3, 0, []) (List.mem_of_getElem? (i := 8) rfl)) (j := 54) rfl rfl rfl (zM_P hMξ (hYbξ _ (List.mem_of_getElem? (i := 0) rfl))) ((zM_G hMξ (hYbξ _ (List.mem_of_getElem? (i := 0) rfl)) 4).trans (zM_F hMξ (hFbξ _ (List.mem_of_getElem? (i := 4) rfl)))) ?_
      refine zp_load (pc := 40) hx hb (zd_X11_day (40, .aload_n 0, 1, 0, []) (List.mem_of_getElem? (i := 9) rfl)) rfl (j := 0) rfl ?_
      refine zp_getf (n := (A 1 : Int)) (pc := 41) hx hb hEξ hwξ (zd_X11_day (41, .getfield 10, 3, 0, []) (List.mem_of_getElem? (i := 10) rfl)) (j := 50) rfl rfl rfl (zM_P hMξ (hYbξ _ (List.mem_of_getElem? (i := 0) rfl))) ((zM_G hMξ (hYbξ _ (List.mem_of_getElem? (i := 0) rfl)) 0).trans (zM_F hMξ (hFbξ _ (List.mem_of_getElem? (i := 0) rfl)))) ?_
      refine zp_load (pc := 44) hx hb (zd_X11_day (44, .aload_n 0, 1, 0, []) (List.mem_of_getElem? (i := 11) rfl)) rfl (j := 0) rfl ?_
      refine zp_getf (n := (A 1 : Int)) (pc := 45) hx hb hEξ hwξ (zd_X11_day (45, .getfield 10, 3, 0, []) (List.mem_of_getElem? (i := 12) rfl)) (j := 50) rfl rfl rfl (zM_P hMξ (hYbξ _ (List.mem_of_getElem? (i := 0) rfl))) ((zM_G hMξ (hYbξ _ (List.mem_of_getElem? (i := 0) rfl)) 0).trans (zM_F hMξ (hFbξ _ (List.mem_of_getElem? (i := 0) rfl)))) ?_
      refine zp_getf (n := (A 2 : Int)) (pc := 48) hx hb hEξ hwξ (zd_X11_day (48, .getfield 135, 3, 0, []) (List.mem_of_getElem? (i := 13) rfl)) (j := 24) rfl rfl rfl (zM_P hMξ (hYbξ _ (List.mem_of_getElem? (i := 1) rfl))) ((zM_G hMξ (hYbξ _ (List.mem_of_getElem? (i := 1) rfl)) 18).trans (zM_F hMξ (hFbξ _ (List.mem_of_getElem? (i := 24) rfl)))) ?_
      refine zp_load (pc := 51) hx hb (zd_X11_day (51, .iload_n 1, 1, 0, []) (List.mem_of_getElem? (i := 14) rfl)) rfl (j := 1) rfl ?_
      refine zp_call (pc := 52) (how := 0) (idx := 341) (mi := 105) (S := []) hx hb hEξ hwξ heffξ hrmξ (zX_beg2 hWξ A Y F V n1ξ npξ p1ξ Lwξ) rfl (j := 45) rfl rfl (by decide +kernel) (zd_X11_day (52, .invokevirtual 341, 3, 0, []) (List.mem_of_getElem? (i := 15) rfl)) [(A 5 : Int), (A 1 : Int), (A 2 : Int), p1ξ] rfl ⟨zp_o2 (zM_P hMξ (hYbξ _ (List.mem_of_getElem? (i := 5) rfl))), zp_o2 (zM_P hMξ (hYbξ _ (List.mem_of_getElem? (i := 1) rfl))), zp_o2 (zM_P hMξ (hYbξ _ (List.mem_of_getElem? (i := 2) rfl))), zp_o0 (by omega) (by omega) (by omega) (by omega), trivial⟩ (Nat.le_of_ble_eq_true rfl) ⟨⟨M, hMξ, hVξ, trivial⟩, rfl, hYF0ξ, rfl, rfl, rfl, hlwξ, hokξ, by omega, by omega⟩ (fun al halξ rndy Pdy Gdy hextdyξ hfrdyξ hokdyξ hcsdyξ hpsidyξ => ?_)
      obtain rfl := List.mem_singleton.mp halξ
      obtain ⟨hPedyξ, Mdy, hMdyξ, hVdyξ, hDsdyξ⟩ := hpsidyξ
      subst hPedyξ
      clear hextdyξ hfrdyξ hokdyξ hcsdyξ
      have hXdyξ : zDX (zd_hr (zRc V 2 50) n1ξ npξ (zd_sp (zRc V 2 50) Lwξ p1ξ) (zd_ru (zRc V 2 50) Lwξ p1ξ) p1ξ 0) Mdy := hDsdyξ.2.2.2
      refine zp_load (pc := 55) hx hb (zd_X11_day (55, .aload_n 0, 1, 0, []) (List.mem_of_getElem? (i := 16) rfl)) rfl (j := 0) rfl ?_
      refine zp_getf (n := (A 5 : Int)) (pc := 56) hx hb hEξ hwξ (zd_X11_day (56, .getfield 39, 3, 0, []) (List.mem_of_getElem? (i := 17) rfl)) (j := 54) rfl rfl rfl (zM_P hMdyξ (hYbξ _ (List.mem_of_getElem? (i := 0) rfl))) ((zM_G hMdyξ (hYbξ _ (List.mem_of_getElem? (i := 0) rfl)) 4).trans (zM_F hMdyξ (hFbξ _ (List.mem_of_getElem? (i := 4) rfl)))) ?_
      refine zp_call (pc := 59) (how := 0) (idx := 357) (mi := 133) (S := []) hx hb hEξ hwξ heffξ hrmξ (zX_sfrd hWξ A Y F Mdy V n1ξ npξ p1ξ Lwξ (zd_hr (zRc V 2 50) n1ξ npξ (zd_sp (zRc V 2 50) Lwξ p1ξ) (zd_ru (zRc V 2 50) Lwξ p1ξ) p1ξ 0)) rfl (j := 48) rfl rfl (by decide +kernel) (zd_X11_day (59, .invokevirtual 357, 3, 0, []) (List.mem_of_getElem? (i := 18) rfl)) [(A 5 : Int)] rfl ⟨zp_o2 (zM_P hMdyξ (hYbξ _ (List.mem_of_getElem? (i := 5) rfl))), trivial⟩ (Nat.le_of_ble_eq_true rfl) ⟨hMdyξ, rfl, hYF0ξ, hVdyξ, hDsdyξ, hokξ, by omega, by omega⟩ (fun al halξ rnsf Psf Gsf hextsfξ hfrsfξ hoksfξ hcssfξ hpsisfξ => ?_)
      obtain rfl := List.mem_singleton.mp halξ
      have hrsfξ := zp_int (hoksfξ _ rfl).1
      obtain ⟨hPesfξ, Msf, hMsfξ, htsfξ⟩ := hpsisfξ
      subst hPesfξ
      have hrvξ : rnsf = (zc_sf (fun h p => zd_sp (zRc V 2 50) Lwξ p1ξ (zd_pw (zd_ru (zRc V 2 50) Lwξ p1ξ) p1ξ h) h p) npξ 24) := htsfξ.2
      have hbvξ : -2147483648 ≤ rnsf ∧ rnsf ≤ 2147483647 := ⟨by omega, by omega⟩
      rw [hrvξ]
      rw [hrvξ] at hbvξ
      refine zp_iret (pc := 62) (n := (zc_sf (fun h p => zd_sp (zRc V 2 50) Lwξ p1ξ (zd_pw (zd_ru (zRc V 2 50) Lwξ p1ξ) p1ξ h) h p) npξ 24)) hx hb hEξ hQξ hU5ξ rfl (by decide) (zd_X11_day (62, .ireturn, 1, 0, []) (List.mem_of_getElem? (i := 19) rfl)) (j := 0) rfl (zp_o0 (by omega) (by omega) (by omega) (by omega)) ?_
      rw [hpsξ]
      refine ⟨rfl, ?_⟩
      have hffξ : zf_dayc V n1ξ npξ Lwξ p1ξ p2ξ = ((zc_sf (fun h p => zd_sp (zRc V 2 50) Lwξ p1ξ (zd_pw (zd_ru (zRc V 2 50) Lwξ p1ξ) p1ξ h) h p) npξ 24), V) := by
        unfold zf_dayc
        rw [if_pos ((Iff.mp htn666ξ) (by omega)), if_pos hc670ξ]
      show zMVc A Y F (zf_dayc V n1ξ npξ Lwξ p1ξ p2ξ).2 u.1 Gsf ∧ (zc_sf (fun h p => zd_sp (zRc V 2 50) Lwξ p1ξ (zd_pw (zd_ru (zRc V 2 50) Lwξ p1ξ) p1ξ h) h p) npξ 24) = (zf_dayc V n1ξ npξ Lwξ p1ξ p2ξ).1
      rw [hffξ]
      exact ⟨⟨Msf, hMsfξ, htsfξ.1, trivial⟩, rfl⟩
    by_cases hc671ξ : p2ξ = 1
    · refine zp_tin (tgt := 63) (off := 53) (pc := 10) hx hb (zd_X11_day (10, .tableswitch 107 0 2 #[26, 53, 80], 26, 0, []) (List.mem_of_getElem? (i := 6) rfl)) (by rw [hc671ξ]; decide) (by rw [hc671ξ]; decide) (by rw [hc671ξ]; decide) rfl ?_
      refine zp_load (pc := 63) hx hb (zd_X11_day (63, .aload_n 0, 1, 0, []) (List.mem_of_getElem? (i := 20) rfl)) rfl (j := 0) rfl ?_
      refine zp_getf (n := (A 5 : Int)) (pc := 64) hx hb hEξ hwξ (zd_X11_day (64, .getfield 39, 3, 0, []) (List.mem_of_getElem? (i := 21) rfl)) (j := 54) rfl rfl rfl (zM_P hMξ (hYbξ _ (List.mem_of_getElem? (i := 0) rfl))) ((zM_G hMξ (hYbξ _ (List.mem_of_getElem? (i := 0) rfl)) 4).trans (zM_F hMξ (hFbξ _ (List.mem_of_getElem? (i := 4) rfl)))) ?_
      refine zp_load (pc := 67) hx hb (zd_X11_day (67, .aload_n 0, 1, 0, []) (List.mem_of_getElem? (i := 22) rfl)) rfl (j := 0) rfl ?_
      refine zp_getf (n := (A 1 : Int)) (pc := 68) hx hb hEξ hwξ (zd_X11_day (68, .getfield 10, 3, 0, []) (List.mem_of_getElem? (i := 23) rfl)) (j := 50) rfl rfl rfl (zM_P hMξ (hYbξ _ (List.mem_of_getElem? (i := 0) rfl))) ((zM_G hMξ (hYbξ _ (List.mem_of_getElem? (i := 0) rfl)) 0).trans (zM_F hMξ (hFbξ _ (List.mem_of_getElem? (i := 0) rfl)))) ?_
      refine zp_load (pc := 71) hx hb (zd_X11_day (71, .aload_n 0, 1, 0, []) (List.mem_of_getElem? (i := 24) rfl)) rfl (j := 0) rfl ?_
      refine zp_getf (n := (A 1 : Int)) (pc := 72) hx hb hEξ hwξ (zd_X11_day (72, .getfield 10, 3, 0, []) (List.mem_of_getElem? (i := 25) rfl)) (j := 50) rfl rfl rfl (zM_P hMξ (hYbξ _ (List.mem_of_getElem? (i := 0) rfl))) ((zM_G hMξ (hYbξ _ (List.mem_of_getElem? (i := 0) rfl)) 0).trans (zM_F hMξ (hFbξ _ (List.mem_of_getElem? (i := 0) rfl)))) ?_
      refine zp_getf (n := (A 2 : Int)) (pc := 75) hx hb hEξ hwξ (zd_X11_day (75, .getfield 135, 3, 0, []) (List.mem_of_getElem? (i := 26) rfl)) (j := 24) rfl rfl rfl (zM_P hMξ (hYbξ _ (List.mem_of_getElem? (i := 1) rfl))) ((zM_G hMξ (hYbξ _ (List.mem_of_getElem? (i := 1) rfl)) 18).trans (zM_F hMξ (hFbξ _ (List.mem_of_getElem? (i := 24) rfl)))) ?_
      refine zp_load (pc := 78) hx hb (zd_X11_day (78, .iload_n 1, 1, 0, []) (List.mem_of_getElem? (i := 27) rfl)) rfl (j := 1) rfl ?_
      refine zp_call (pc := 79) (how := 0) (idx := 350) (mi := 131) (S := []) hx hb hEξ hwξ heffξ hrmξ (zX_pas2 hWξ A Y F V n1ξ npξ p1ξ Lwξ) rfl (j := 47) rfl rfl (by decide +kernel) (zd_X11_day (79, .invokevirtual 350, 3, 0, []) (List.mem_of_getElem? (i := 28) rfl)) [(A 5 : Int), (A 1 : Int), (A 2 : Int), p1ξ] rfl ⟨zp_o2 (zM_P hMξ (hYbξ _ (List.mem_of_getElem? (i := 5) rfl))), zp_o2 (zM_P hMξ (hYbξ _ (List.mem_of_getElem? (i := 1) rfl))), zp_o2 (zM_P hMξ (hYbξ _ (List.mem_of_getElem? (i := 2) rfl))), zp_o0 (by omega) (by omega) (by omega) (by omega), trivial⟩ (Nat.le_of_ble_eq_true rfl) ⟨⟨M, hMξ, hVξ, trivial⟩, rfl, hYF0ξ, rfl, rfl, rfl, hlwξ, hokξ, by omega, by omega⟩ (fun al halξ rndy Pdy Gdy hextdyξ hfrdyξ hokdyξ hcsdyξ hpsidyξ => ?_)
      obtain rfl := List.mem_singleton.mp halξ
      obtain ⟨hPedyξ, Mdy, hMdyξ, hVdyξ, hDsdyξ⟩ := hpsidyξ
      subst hPedyξ
      clear hextdyξ hfrdyξ hokdyξ hcsdyξ
      have hXdyξ : zDX (zc_X V 2 50 n1ξ npξ Lwξ p1ξ) Mdy := hDsdyξ.2.2.2
      refine zp_load (pc := 82) hx hb (zd_X11_day (82, .aload_n 0, 1, 0, []) (List.mem_of_getElem? (i := 29) rfl)) rfl (j := 0) rfl ?_
      refine zp_getf (n := (A 5 : Int)) (pc := 83) hx hb hEξ hwξ (zd_X11_day (83, .getfield 39, 3, 0, []) (List.mem_of_getElem? (i := 30) rfl)) (j := 54) rfl rfl rfl (zM_P hMdyξ (hYbξ _ (List.mem_of_getElem? (i := 0) rfl))) ((zM_G hMdyξ (hYbξ _ (List.mem_of_getElem? (i := 0) rfl)) 4).trans (zM_F hMdyξ (hFbξ _ (List.mem_of_getElem? (i := 4) rfl)))) ?_
      refine zp_call (pc := 86) (how := 0) (idx := 360) (mi := 134) (S := []) hx hb hEξ hwξ heffξ hrmξ (zX_witd hWξ A Y F Mdy V (zc_X V 2 50 n1ξ npξ Lwξ p1ξ) n1ξ) rfl (j := 49) rfl rfl (by decide +kernel) (zd_X11_day (86, .invokevirtual 360, 3, 0, []) (List.mem_of_getElem? (i := 31) rfl)) [(A 5 : Int)] rfl ⟨zp_o2 (zM_P hMdyξ (hYbξ _ (List.mem_of_getElem? (i := 5) rfl))), trivial⟩ (Nat.le_of_ble_eq_true rfl) ⟨hMdyξ, rfl, hYF0ξ, hVdyξ, hDsdyξ.2.1.1, hXdyξ, hokξ.1.2.2.1, hokξ.1.1, hwoξ⟩ (fun al halξ rnwt Pwt Gwt hextwtξ hfrwtξ hokwtξ hcswtξ hpsiwtξ => ?_)
      obtain rfl := List.mem_singleton.mp halξ
      have hrwtξ := zp_int (hokwtξ _ rfl).1
      obtain ⟨hPewtξ, hGewtξ, htwtξ⟩ := hpsiwtξ
      rw [hPewtξ, hGewtξ]
      clear hextwtξ hfrwtξ hcswtξ hPewtξ hGewtξ
      have hrvξ : rnwt = (zc_wt (zc_X V 2 50 n1ξ npξ Lwξ p1ξ) (fun w => V 34 (2000 + w)) (fun w => V 35 (2000 + w)) n1ξ) := htwtξ
      have hbvξ : -2147483648 ≤ rnwt ∧ rnwt ≤ 2147483647 := ⟨by omega, by omega⟩
      rw [hrvξ]
      rw [hrvξ] at hbvξ
      refine zp_iret (pc := 89) (n := (zc_wt (zc_X V 2 50 n1ξ npξ Lwξ p1ξ) (fun w => V 34 (2000 + w)) (fun w => V 35 (2000 + w)) n1ξ)) hx hb hEξ hQξ hU5ξ rfl (by decide) (zd_X11_day (89, .ireturn, 1, 0, []) (List.mem_of_getElem? (i := 32) rfl)) (j := 0) rfl (zp_o0 (by omega) (by omega) (by omega) (by omega)) ?_
      rw [hpsξ]
      refine ⟨rfl, ?_⟩
      have hffξ : zf_dayc V n1ξ npξ Lwξ p1ξ p2ξ = ((zc_wt (zc_X V 2 50 n1ξ npξ Lwξ p1ξ) (fun w => V 34 (2000 + w)) (fun w => V 35 (2000 + w)) n1ξ), V) := by
        unfold zf_dayc
        rw [if_pos ((Iff.mp htn666ξ) (by omega)), if_neg hc670ξ, if_pos hc671ξ]
      show zMVc A Y F (zf_dayc V n1ξ npξ Lwξ p1ξ p2ξ).2 u.1 Gdy ∧ (zc_wt (zc_X V 2 50 n1ξ npξ Lwξ p1ξ) (fun w => V 34 (2000 + w)) (fun w => V 35 (2000 + w)) n1ξ) = (zf_dayc V n1ξ npξ Lwξ p1ξ p2ξ).1
      rw [hffξ]
      exact ⟨⟨Mdy, hMdyξ, hVdyξ, trivial⟩, rfl⟩
    by_cases hc672ξ : p2ξ = 2
    · refine zp_tin (tgt := 90) (off := 80) (pc := 10) hx hb (zd_X11_day (10, .tableswitch 107 0 2 #[26, 53, 80], 26, 0, []) (List.mem_of_getElem? (i := 6) rfl)) (by rw [hc672ξ]; decide) (by rw [hc672ξ]; decide) (by rw [hc672ξ]; decide) rfl ?_
      refine zp_load (pc := 90) hx hb (zd_X11_day (90, .aload_n 0, 1, 0, []) (List.mem_of_getElem? (i := 33) rfl)) rfl (j := 0) rfl ?_
      refine zp_getf (n := (A 5 : Int)) (pc := 91) hx hb hEξ hwξ (zd_X11_day (91, .getfield 39, 3, 0, []) (List.mem_of_getElem? (i := 34) rfl)) (j := 54) rfl rfl rfl (zM_P hMξ (hYbξ _ (List.mem_of_getElem? (i := 0) rfl))) ((zM_G hMξ (hYbξ _ (List.mem_of_getElem? (i := 0) rfl)) 4).trans (zM_F hMξ (hFbξ _ (List.mem_of_getElem? (i := 4) rfl)))) ?_
      refine zp_load (pc := 94) hx hb (zd_X11_day (94, .aload_n 0, 1, 0, []) (List.mem_of_getElem? (i := 35) rfl)) rfl (j := 0) rfl ?_
      refine zp_getf (n := (A 1 : Int)) (pc := 95) hx hb hEξ hwξ (zd_X11_day (95, .getfield 10, 3, 0, []) (List.mem_of_getElem? (i := 36) rfl)) (j := 50) rfl rfl rfl (zM_P hMξ (hYbξ _ (List.mem_of_getElem? (i := 0) rfl))) ((zM_G hMξ (hYbξ _ (List.mem_of_getElem? (i := 0) rfl)) 0).trans (zM_F hMξ (hFbξ _ (List.mem_of_getElem? (i := 0) rfl)))) ?_
      refine zp_load (pc := 98) hx hb (zd_X11_day (98, .aload_n 0, 1, 0, []) (List.mem_of_getElem? (i := 37) rfl)) rfl (j := 0) rfl ?_
      refine zp_getf (n := (A 1 : Int)) (pc := 99) hx hb hEξ hwξ (zd_X11_day (99, .getfield 10, 3, 0, []) (List.mem_of_getElem? (i := 38) rfl)) (j := 50) rfl rfl rfl (zM_P hMξ (hYbξ _ (List.mem_of_getElem? (i := 0) rfl))) ((zM_G hMξ (hYbξ _ (List.mem_of_getElem? (i := 0) rfl)) 0).trans (zM_F hMξ (hFbξ _ (List.mem_of_getElem? (i := 0) rfl)))) ?_
      refine zp_getf (n := (A 2 : Int)) (pc := 102) hx hb hEξ hwξ (zd_X11_day (102, .getfield 135, 3, 0, []) (List.mem_of_getElem? (i := 39) rfl)) (j := 24) rfl rfl rfl (zM_P hMξ (hYbξ _ (List.mem_of_getElem? (i := 1) rfl))) ((zM_G hMξ (hYbξ _ (List.mem_of_getElem? (i := 1) rfl)) 18).trans (zM_F hMξ (hFbξ _ (List.mem_of_getElem? (i := 24) rfl)))) ?_
      refine zp_load (pc := 105) hx hb (zd_X11_day (105, .iload_n 1, 1, 0, []) (List.mem_of_getElem? (i := 40) rfl)) rfl (j := 1) rfl ?_
      refine zp_call (pc := 106) (how := 0) (idx := 350) (mi := 131) (S := []) hx hb hEξ hwξ heffξ hrmξ (zX_pas2 hWξ A Y F V n1ξ npξ p1ξ Lwξ) rfl (j := 47) rfl rfl (by decide +kernel) (zd_X11_day (106, .invokevirtual 350, 3, 0, []) (List.mem_of_getElem? (i := 41) rfl)) [(A 5 : Int), (A 1 : Int), (A 2 : Int), p1ξ] rfl ⟨zp_o2 (zM_P hMξ (hYbξ _ (List.mem_of_getElem? (i := 5) rfl))), zp_o2 (zM_P hMξ (hYbξ _ (List.mem_of_getElem? (i := 1) rfl))), zp_o2 (zM_P hMξ (hYbξ _ (List.mem_of_getElem? (i := 2) rfl))), zp_o0 (by omega) (by omega) (by omega) (by omega), trivial⟩ (Nat.le_of_ble_eq_true rfl) ⟨⟨M, hMξ, hVξ, trivial⟩, rfl, hYF0ξ, rfl, rfl, rfl, hlwξ, hokξ, by omega, by omega⟩ (fun al halξ rndy Pdy Gdy hextdyξ hfrdyξ hokdyξ hcsdyξ hpsidyξ => ?_)
      obtain rfl := List.mem_singleton.mp halξ
      obtain ⟨hPedyξ, Mdy, hMdyξ, hVdyξ, hDsdyξ⟩ := hpsidyξ
      subst hPedyξ
      clear hextdyξ hfrdyξ hokdyξ hcsdyξ
      have hXdyξ : zDX (zc_X V 2 50 n1ξ npξ Lwξ p1ξ) Mdy := hDsdyξ.2.2.2
      refine zp_load (pc := 109) hx hb (zd_X11_day (109, .aload_n 0, 1, 0, []) (List.mem_of_getElem? (i := 42) rfl)) rfl (j := 0) rfl ?_
      refine zp_getf (n := (A 5 : Int)) (pc := 110) hx hb hEξ hwξ (zd_X11_day (110, .getfield 39, 3, 0, []) (List.mem_of_getElem? (i := 43) rfl)) (j := 54) rfl rfl rfl (zM_P hMdyξ (hYbξ _ (List.mem_of_getElem? (i := 0) rfl))) ((zM_G hMdyξ (hYbξ _ (List.mem_of_getElem? (i := 0) rfl)) 4).trans (zM_F hMdyξ (hFbξ _ (List.mem_of_getElem? (i := 4) rfl)))) ?_
      refine zp_call (pc := 113) (how := 0) (idx := 363) (mi := 136) (S := []) hx hb hEξ hwξ heffξ hrmξ (zX_litd hWξ A Y F Mdy V (zc_X V 2 50 n1ξ npξ Lwξ p1ξ) n1ξ) rfl (j := 50) rfl rfl (by decide +kernel) (zd_X11_day (113, .invokevirtual 363, 3, 0, []) (List.mem_of_getElem? (i := 44) rfl)) [(A 5 : Int)] rfl ⟨zp_o2 (zM_P hMdyξ (hYbξ _ (List.mem_of_getElem? (i := 5) rfl))), trivial⟩ (Nat.le_of_ble_eq_true rfl) ⟨hMdyξ, rfl, hYF0ξ, hVdyξ, hDsdyξ.2.1.1, hXdyξ, hokξ.1.2.2.1, hokξ.1.1⟩ (fun al halξ rnwt Pwt Gwt hextwtξ hfrwtξ hokwtξ hcswtξ hpsiwtξ => ?_)
      obtain rfl := List.mem_singleton.mp halξ
      have hrwtξ := zp_int (hokwtξ _ rfl).1
      obtain ⟨hPewtξ, hGewtξ, htwtξ⟩ := hpsiwtξ
      rw [hPewtξ, hGewtξ]
      clear hextwtξ hfrwtξ hcswtξ hPewtξ hGewtξ
      have hrvξ : rnwt = (zc_md (zc_X V 2 50 n1ξ npξ Lwξ p1ξ) (fun w => V 33 (2000 + w)) n1ξ) := htwtξ
      have hbvξ : -2147483648 ≤ rnwt ∧ rnwt ≤ 2147483647 := ⟨by omega, by omega⟩
      rw [hrvξ]
      rw [hrvξ] at hbvξ
      refine zp_iret (pc := 116) (n := (zc_md (zc_X V 2 50 n1ξ npξ Lwξ p1ξ) (fun w => V 33 (2000 + w)) n1ξ)) hx hb hEξ hQξ hU5ξ rfl (by decide) (zd_X11_day (116, .ireturn, 1, 0, []) (List.mem_of_getElem? (i := 45) rfl)) (j := 0) rfl (zp_o0 (by omega) (by omega) (by omega) (by omega)) ?_
      rw [hpsξ]
      refine ⟨rfl, ?_⟩
      have hffξ : zf_dayc V n1ξ npξ Lwξ p1ξ p2ξ = ((zc_md (zc_X V 2 50 n1ξ npξ Lwξ p1ξ) (fun w => V 33 (2000 + w)) n1ξ), V) := by
        unfold zf_dayc
        rw [if_pos ((Iff.mp htn666ξ) (by omega)), if_neg hc670ξ, if_neg hc671ξ, if_pos hc672ξ]
      show zMVc A Y F (zf_dayc V n1ξ npξ Lwξ p1ξ p2ξ).2 u.1 Gdy ∧ (zc_md (zc_X V 2 50 n1ξ npξ Lwξ p1ξ) (fun w => V 33 (2000 + w)) n1ξ) = (zf_dayc V n1ξ npξ Lwξ p1ξ p2ξ).1
      rw [hffξ]
      exact ⟨⟨Mdy, hMdyξ, hVdyξ, trivial⟩, rfl⟩
    refine zp_tout (tgt := 117) (pc := 10) hx hb (zd_X11_day (10, .tableswitch 107 0 2 #[26, 53, 80], 26, 0, []) (List.mem_of_getElem? (i := 6) rfl)) (by omega) rfl ?_
    refine zp_const (pc := 117) hx hb (zd_X11_day (117, .iconst (-1), 1, 0, []) (List.mem_of_getElem? (i := 46) rfl)) rfl rfl ?_
    refine zp_iret (pc := 118) (n := (-1)) hx hb hEξ hQξ hU5ξ rfl (by decide) (zd_X11_day (118, .ireturn, 1, 0, []) (List.mem_of_getElem? (i := 47) rfl)) (j := 0) rfl (zp_o0 (by omega) (by omega) (by omega) (by omega)) ?_
    rw [hpsξ]
    refine ⟨rfl, ?_⟩
    have hffξ : zf_dayc V n1ξ npξ Lwξ p1ξ p2ξ = ((-1), V) := by
      unfold zf_dayc
      rw [if_pos ((Iff.mp htn666ξ) (by omega)), if_neg hc670ξ, if_neg hc671ξ, if_neg hc672ξ]
    show zMVc A Y F (zf_dayc V n1ξ npξ Lwξ p1ξ p2ξ).2 u.1 (zp_n u.2.1) ∧ (-1) = (zf_dayc V n1ξ npξ Lwξ p1ξ p2ξ).1
    rw [hffξ]
    exact ⟨⟨M, hMξ, hVξ, trivial⟩, rfl⟩
  · have hbf669ξ : ¬ (0 ≤ p1ξ ∧ p1ξ ≤ 12) := fun h9ξ => absurd ((Iff.mpr htn666ξ) h9ξ) (by omega)
    refine zp_const (pc := 7) hx hb (zd_X11_day (7, .iconst (-1), 1, 0, []) (List.mem_of_getElem? (i := 3) rfl)) rfl rfl ?_
    refine zp_iret (pc := 8) (n := (-1)) hx hb hEξ hQξ hU5ξ rfl (by decide) (zd_X11_day (8, .ireturn, 1, 0, []) (List.mem_of_getElem? (i := 4) rfl)) (j := 0) rfl (zp_o0 (by omega) (by omega) (by omega) (by omega)) ?_
    rw [hpsξ]
    refine ⟨rfl, ?_⟩
    have hffξ : zf_dayc V n1ξ npξ Lwξ p1ξ p2ξ = ((-1), V) := by
      unfold zf_dayc
      rw [if_neg (fun h9ξ => absurd ((Iff.mpr htn666ξ) h9ξ) (by omega))]
    show zMVc A Y F (zf_dayc V n1ξ npξ Lwξ p1ξ p2ξ).2 u.1 (zp_n u.2.1) ∧ (-1) = (zf_dayc V n1ξ npξ Lwξ p1ξ p2ξ).1
    rw [hffξ]
    exact ⟨⟨M, hMξ, hVξ, trivial⟩, rfl⟩