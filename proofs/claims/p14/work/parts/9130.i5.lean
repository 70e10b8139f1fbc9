/-! part i5: the class over logical cells: a day begins and passes -/
noncomputable def zK_psh2 : zk_K := (zt_mn 108, prog_2_method_5_code, 5, (Option.none : Option Jvm.ClassFile.FieldType), 1, 0, [(2, 0, 0, 0), (0, 0, (-2147483648), 2147483647)], [(none, [])], [(27, 1001, 0), (28, 1001, 0), (15, 1001, 0), (16, 1001, 0)], (4, 240, 0, 0))
noncomputable def zφ_psh2 (A : Nat → Nat) (Y : List (Nat × Nat)) (F : List (Nat × Nat × Nat)) (M : Nat → Nat → Int) (V : Nat → Nat → Int) (n1ξ npξ : Nat) (t0ξ : Int) (Lwξ : List yK) (h9ξ : Nat) : (Nat → Option Nat) → (Nat → Nat → Int) → List Int → Prop := fun P G ps => zM A Y F M P G ∧ ps.getD 0 0 = (A 5 : Int) ∧ zMc Y F ∧ (∀ o k, zNc o → M o k = V o k) ∧ zDst A Y F V Lwξ 2 50 t0ξ (zd_hr (zRc V 2 50) n1ξ npξ (zd_sp (zRc V 2 50) Lwξ t0ξ) (zd_ru (zRc V 2 50) Lwξ t0ξ) t0ξ h9ξ) M ∧ (ps.getD 1 0) = (h9ξ : Int) ∧ h9ξ < 24 ∧ zc_ok V 2 50 n1ξ npξ ∧ 0 ≤ t0ξ ∧ t0ξ ≤ 12
noncomputable def zψ_psh2 (A : Nat → Nat) (Y : List (Nat × Nat)) (F : List (Nat × Nat × Nat)) (M : Nat → Nat → Int) (V : Nat → Nat → Int) (n1ξ npξ : Nat) (t0ξ : Int) (Lwξ : List yK) (h9ξ : Nat) : (Nat → Option Nat) → (Nat → Nat → Int) → List Int → (Nat → Option Nat) → (Nat → Nat → Int) → Int → Prop := fun P G ps P' G' rn => P' = P ∧ ∃ M' : Nat → Nat → Int, zM A Y F M' P' G' ∧ (∀ o k, zNc o → M' o k = V o k) ∧ zDst A Y F V Lwξ 2 50 t0ξ (zd_hr (zRc V 2 50) n1ξ npξ (zd_sp (zRc V 2 50) Lwξ t0ξ) (zd_ru (zRc V 2 50) Lwξ t0ξ) t0ξ (h9ξ + 1)) M'
theorem zX_psh2 {l : Launch} {w : zk_W} (hWξ : zh_W w) (A : Nat → Nat) (Y : List (Nat × Nat)) (F : List (Nat × Nat × Nat)) (M : Nat → Nat → Int) (V : Nat → Nat → Int) (n1ξ npξ : Nat) (t0ξ : Int) (Lwξ : List yK) (h9ξ : Nat) : zk_metX l w zt_dv zt_TB zK_psh2 (zp_A (zφ_psh2 A Y F M V n1ξ npξ t0ξ Lwξ h9ξ)) (zp_B (zψ_psh2 A Y F M V n1ξ npξ t0ξ Lwξ h9ξ)) ∧ zk_cok w zt_TB zK_psh2 := by
  refine zp_methX (cn := "WoundTown$Day") zp_lkallDy hWξ (pl := 1011) rfl (by decide +kernel) (fun p e R s m args below meth c Q u hx hb hEξ hQξ hU5ξ heffξ hnLξ hokξ hφ => ?_)
  have hwξ := hWξ.1
  obtain ⟨p0ξ, p1ξ, hpsξ, tk0, tk1⟩ := zp_ps2 hokξ
  have hrmξ : zk_Kr (zk_ev (zt_types, zp_lkDy, zt_dv, [], [], zp_lcDy, zK_psh2)) = zk_Kr zK_psh2 := rfl
  rw [hpsξ] at hφ ⊢
  have hφ : zM A Y F M u.1 (zp_n u.2.1) ∧ p0ξ = (A 5 : Int) ∧ zMc Y F ∧ (∀ o k, zNc o → M o k = V o k) ∧ zDst A Y F V Lwξ 2 50 t0ξ (zd_hr (zRc V 2 50) n1ξ npξ (zd_sp (zRc V 2 50) Lwξ t0ξ) (zd_ru (zRc V 2 50) Lwξ t0ξ) t0ξ h9ξ) M ∧ p1ξ = (h9ξ : Int) ∧ h9ξ < 24 ∧ zc_ok V 2 50 n1ξ npξ ∧ 0 ≤ t0ξ ∧ t0ξ ≤ 12 := hφ
  obtain ⟨hMξ, rfl, hYFξ, hV0ξ, hDs0ξ, rfl, hh24ξ, hokξ, ht0ξ, ht12ξ⟩ := hφ
  have hYF0ξ := hYFξ
  obtain ⟨hYbξ, hFbξ, hFxξ, -⟩ := hYFξ
  have hi1ξ := zp_int tk1
  have hM00ξ := hMξ
  obtain ⟨hn10ξ, hnp6ξ, hn1ξ, hnpξ, hDwξ, hDpξ⟩ := hokξ.1
  have hn1ξ : V 1 3 = (n1ξ : Int) := hn1ξ
  have hnpξ : V 1 1 = (npξ : Int) := hnpξ
  have hpwbξ := zd_pwb (R := (zRc V 2 50)) (L := Lwξ) ht0ξ ht12ξ (h := h9ξ)
  obtain ⟨X0ξ, hX0ξ⟩ : ∃ X0ξ, X0ξ = zd_hr (zRc V 2 50) n1ξ npξ (zd_sp (zRc V 2 50) Lwξ t0ξ) (zd_ru (zRc V 2 50) Lwξ t0ξ) t0ξ h9ξ := ⟨_, rfl⟩
  rw [← hX0ξ] at hDs0ξ
  have hibξ : zc_ib (zRc V 2 50) n1ξ h9ξ X0ξ := by
    rw [hX0ξ]
    exact zc_ibh (fun w hwξ => (hDwξ w hwξ).2.2.1) hokξ.2
  have hXb0ξ : ∀ w, w < n1ξ → 0 ≤ X0ξ.1 w ∧ X0ξ.1 w ≤ 600 := fun w hwξ => by rw [hX0ξ]; exact zd_hrb hokξ.1 hwξ
  show zp_J p l e R s m args below meth c Q w u [] 0 [(0, 2, (A 5 : Int)), (1, 0, (h9ξ : Int))] [] u.1 (zp_n u.2.1)
  have loop : ∀ (r9ξ p9ξ : Nat) (M : Nat → Nat → Int) (G : Nat → Nat → Int), r9ξ + p9ξ = npξ → zM A Y F M u.1 G → (∀ o k, zNc o → M o k = V o k) → zDst A Y F V Lwξ 2 50 t0ξ (zd_hp (zRc V 2 50) (zd_rd (zRc V 2 50) X0ξ.1) n1ξ (zd_sp (zRc V 2 50) Lwξ t0ξ (zd_pw (zd_ru (zRc V 2 50) Lwξ t0ξ) t0ξ h9ξ) h9ξ) h9ξ X0ξ p9ξ) M → zp_J p l e R s m args below meth c Q w u [] 2 [(2, 0, (p9ξ : Int)), (0, 2, (A 5 : Int)), (1, 0, (h9ξ : Int))] [] u.1 G := by
    intro r9ξ
    induction r9ξ with
    | zero =>
      intro p9ξ M G hrξ hMξ hVξ hDsξ
      obtain ⟨hAbξ, ⟨h51ξ, h52ξ⟩, hpwξ, hXξ⟩ := hDsξ
      refine zp_load (pc := 2) hx hb (zd_X0_passHour (2, .iload_n 2, 1, 0, []) (List.mem_of_getElem? (i := 2) rfl)) rfl (j := 0) rfl ?_
      refine zp_load (pc := 3) hx hb (zd_X0_passHour (3, .aload_n 0, 1, 0, []) (List.mem_of_getElem? (i := 3) rfl)) rfl (j := 1) rfl ?_
      refine zp_getf (n := (A 1 : Int)) (pc := 4) hx hb hEξ hwξ (zd_X0_passHour (4, .getfield 25, 3, 0, []) (List.mem_of_getElem? (i := 4) rfl)) (j := 18) rfl rfl rfl (zM_P hMξ (hYbξ _ (List.mem_of_getElem? (i := 5) rfl))) ((zM_G hMξ (hYbξ _ (List.mem_of_getElem? (i := 5) rfl)) 1).trans h51ξ) ?_
      refine zp_getf (n := (npξ : Int)) (pc := 7) hx hb hEξ hwξ (zd_X0_passHour (7, .getfield 87, 3, 0, []) (List.mem_of_getElem? (i := 5) rfl)) (j := 4) rfl rfl rfl (zM_P hMξ (hYbξ _ (List.mem_of_getElem? (i := 1) rfl))) (((zM_G hMξ (hYbξ _ (List.mem_of_getElem? (i := 1) rfl)) 1).trans (hVξ 1 1 (by decide))).trans hnpξ) ?_
      refine zp_icmp (pc := 10) (tgt := 127) hx hb (zd_X0_passHour (10, .if_icmp .ge 117, 3, 0, []) (List.mem_of_getElem? (i := 6) rfl)) rfl (fun (hc466ξ : (npξ : Int) ≤ (p9ξ : Int)) => ?_) (fun (hc466ξ : ¬ ((npξ : Int) ≤ (p9ξ : Int))) => ?_)
      · obtain rfl : p9ξ = npξ := by omega
        refine zp_vret (pc := 127) hx hb hEξ hQξ hU5ξ rfl (by decide) (zd_X0_passHour (127, .return_, 1, 0, []) (List.mem_of_getElem? (i := 72) rfl)) (j := 0) rfl ?_
        rw [hpsξ]
        refine ⟨rfl, M, hMξ, ?_⟩
        exact ⟨hVξ, hAbξ, ⟨h51ξ, h52ξ⟩, hpwξ, by rw [zd_hr, ← hX0ξ]; exact hXξ⟩
      · exfalso
        omega
    | succ r9ξ ih =>
      intro p9ξ M G hrξ hMξ hVξ hDsξ
      obtain ⟨X, hXeξ⟩ : ∃ X, X = (zd_hp (zRc V 2 50) (zd_rd (zRc V 2 50) X0ξ.1) n1ξ (zd_sp (zRc V 2 50) Lwξ t0ξ (zd_pw (zd_ru (zRc V 2 50) Lwξ t0ξ) t0ξ h9ξ) h9ξ) h9ξ X0ξ p9ξ) := ⟨_, rfl⟩
      rw [← hXeξ] at hDsξ
      obtain ⟨hAbξ, ⟨h51ξ, h52ξ⟩, hpwξ, hXξ⟩ := hDsξ
      have hihξ : zc_ih (zRc V 2 50) n1ξ h9ξ X0ξ X := by
        rw [hXeξ]
        exact zc_ihp hibξ (fun w hwξ => (hDwξ w hwξ).2.2.1)
      have hXbξ : ∀ w, w < n1ξ → 0 ≤ X.1 w ∧ X.1 w ≤ 600 := fun w hwξ => by rw [hXeξ]; exact zd_hpb hokξ.1 hXb0ξ hwξ
      have hspbξ := zd_spb (R := (zRc V 2 50)) (L := Lwξ) (t := t0ξ) (pw := (zd_pw (zd_ru (zRc V 2 50) Lwξ t0ξ) t0ξ h9ξ)) (h := h9ξ) (p := p9ξ)
      refine zp_load (pc := 2) hx hb (zd_X0_passHour (2, .iload_n 2, 1, 0, []) (List.mem_of_getElem? (i := 2) rfl)) rfl (j := 0) rfl ?_
      refine zp_load (pc := 3) hx hb (zd_X0_passHour (3, .aload_n 0, 1, 0, []) (List.mem_of_getElem? (i := 3) rfl)) rfl (j := 1) rfl ?_
      refine zp_getf (n := (A 1 : Int)) (pc := 4) hx hb hEξ hwξ (zd_X0_passHour (4, .getfield 25, 3, 0, []) (List.mem_of_getElem? (i := 4) rfl)) (j := 18) rfl rfl rfl (zM_P hMξ (hYbξ _ (List.mem_of_getElem? (i := 5) rfl))) ((zM_G hMξ (hYbξ _ (List.mem_of_getElem? (i := 5) rfl)) 1).trans h51ξ) ?_
      refine zp_getf (n := (npξ : Int)) (pc := 7) hx hb hEξ hwξ (zd_X0_passHour (7, .getfield 87, 3, 0, []) (List.mem_of_getElem? (i := 5) rfl)) (j := 4) rfl rfl rfl (zM_P hMξ (hYbξ _ (List.mem_of_getElem? (i := 1) rfl))) (((zM_G hMξ (hYbξ _ (List.mem_of_getElem? (i := 1) rfl)) 1).trans (hVξ 1 1 (by decide))).trans hnpξ) ?_
      refine zp_icmp (pc := 10) (tgt := 127) hx hb (zd_X0_passHour (10, .if_icmp .ge 117, 3, 0, []) (List.mem_of_getElem? (i := 6) rfl)) rfl (fun (hc467ξ : (npξ : Int) ≤ (p9ξ : Int)) => ?_) (fun (hc467ξ : ¬ ((npξ : Int) ≤ (p9ξ : Int))) => ?_)
      · exfalso
        omega
      · refine zp_load (pc := 13) hx hb (zd_X0_passHour (13, .iload_n 2, 1, 0, []) (List.mem_of_getElem? (i := 7) rfl)) rfl (j := 0) rfl ?_
        refine zp_const (pc := 14) hx hb (zd_X0_passHour (14, .bipush 6, 2, 0, []) (List.mem_of_getElem? (i := 8) rfl)) rfl rfl ?_
        refine zp_icmp (pc := 16) (tgt := 127) hx hb (zd_X0_passHour (16, .if_icmp .ge 111, 3, 0, []) (List.mem_of_getElem? (i := 9) rfl)) rfl (fun (hc468ξ : 6 ≤ (p9ξ : Int)) => ?_) (fun (hc468ξ : ¬ (6 ≤ (p9ξ : Int))) => ?_)
        · exfalso
          omega
        · refine zp_load (pc := 19) hx hb (zd_X0_passHour (19, .aload_n 0, 1, 0, []) (List.mem_of_getElem? (i := 10) rfl)) rfl (j := 1) rfl ?_
          refine zp_load (pc := 20) hx hb (zd_X0_passHour (20, .iload_n 2, 1, 0, []) (List.mem_of_getElem? (i := 11) rfl)) rfl (j := 0) rfl ?_
          refine zp_load (pc := 21) hx hb (zd_X0_passHour (21, .iload_n 1, 1, 0, []) (List.mem_of_getElem? (i := 12) rfl)) rfl (j := 2) rfl ?_
          refine zp_call (pc := 22) (how := 0) (idx := 90) (mi := 109) (S := []) hx hb hEξ hwξ heffξ hrmξ (zX_wofd hWξ A Y F M V X n1ξ) rfl (j := 5) rfl rfl (by decide +kernel) (zd_X0_passHour (22, .invokevirtual 90, 3, 0, []) (List.mem_of_getElem? (i := 13) rfl)) [(A 5 : Int), (p9ξ : Int), (h9ξ : Int)] rfl ⟨zp_o2 (zM_P hMξ (hYbξ _ (List.mem_of_getElem? (i := 5) rfl))), zp_o0 (by omega) (by omega) (by omega) (by omega), zp_o0 (by omega) (by omega) (by omega) (by omega), trivial⟩ (Nat.le_of_ble_eq_true rfl) ⟨hMξ, rfl, hYF0ξ, hVξ, h51ξ, hXξ, hn1ξ, hn10ξ⟩ (fun al halξ rnq Pq Gq hextqξ hfrqξ hokqξ hcsqξ hpsiqξ => ?_)
          obtain rfl := List.mem_singleton.mp halξ
          have hrqξ := zp_int (hokqξ _ rfl).1
          obtain ⟨hPeqξ, hGeqξ, htqξ⟩ := hpsiqξ
          rw [hPeqξ, hGeqξ]
          clear hextqξ hfrqξ hcsqξ hPeqξ hGeqξ
          have htqξ : rnq = zd_pk (zRc V 2 50) (zd_rd (zRc V 2 50) X0ξ.1) X.1 p9ξ n1ξ 0 := Eq.trans htqξ (zc_woe hn1ξ hn10ξ hihξ (fun w hwξ => ⟨(hDwξ w hwξ).1, (hDwξ w hwξ).2.1⟩) (by omega))
          rcases zd_pk_r (R := (zRc V 2 50)) (D := zd_rd (zRc V 2 50) X0ξ.1) (W := X.1) (p := p9ξ) (k := n1ξ) (w := 0) with e9ξ | ⟨j9ξ, e9ξ, -, ej9, -, -, ej8⟩
          · have htqξ : rnq = -1 := (Eq.trans htqξ) e9ξ
            subst htqξ
            refine zp_store (L' := [(3, 0, (-1)), (2, 0, (p9ξ : Int)), (0, 2, (A 5 : Int)), (1, 0, (h9ξ : Int))]) (pc := 25) hx hb hnLξ (zd_X0_passHour (25, .istore_n 3, 1, 0, []) (List.mem_of_getElem? (i := 14) rfl)) rfl rfl rfl ?_
            refine zp_load (pc := 26) hx hb (zd_X0_passHour (26, .iload_n 3, 1, 0, []) (List.mem_of_getElem? (i := 15) rfl)) rfl (j := 0) rfl ?_
            refine zp_const (pc := 27) hx hb (zd_X0_passHour (27, .iconst (-1), 1, 0, []) (List.mem_of_getElem? (i := 16) rfl)) rfl rfl ?_
            refine zp_icmp (pc := 28) (tgt := 34) hx hb (zd_X0_passHour (28, .if_icmp .ne 6, 3, 0, []) (List.mem_of_getElem? (i := 17) rfl)) rfl (fun (hc469ξ : ¬ (-1 : Int) = (-1)) => ?_) (fun (hc469ξ : ¬ (¬ (-1 : Int) = (-1))) => ?_)
            · exfalso
              omega
            · refine zp_goto (tgt := 121) (pc := 31) hx hb (zd_X0_passHour (31, .goto 90, 3, 0, []) (List.mem_of_getElem? (i := 18) rfl)) rfl ?_
              refine zp_iinc (L' := [(2, 0, ((p9ξ : Int) + 1)), (3, 0, (-1)), (0, 2, (A 5 : Int)), (1, 0, (h9ξ : Int))]) (n := ((p9ξ : Int) + 1)) (pc := 121) hx hb hnLξ (zd_X0_passHour (121, .iinc 2 1, 3, 0, []) (List.mem_of_getElem? (i := 70) rfl)) (j := 1) rfl (by omega) (zp_r0 (by omega) (by omega)) rfl rfl ?_
              refine zp_goto (tgt := 2) (pc := 124) hx hb (zd_X0_passHour (124, .goto (-122), 3, 0, []) (List.mem_of_getElem? (i := 71) rfl)) rfl ?_
              refine zp_drop (L' := [(2, 0, ((p9ξ : Int) + 1)), (0, 2, (A 5 : Int)), (1, 0, (h9ξ : Int))]) (by simp) ?_
              refine ih (p9ξ + 1) M G (by omega) hMξ hVξ ⟨hAbξ, ⟨h51ξ, h52ξ⟩, hpwξ, ?_⟩
              rw [zd_hp, ← hXeξ]
              unfold zd_ps
              rw [if_pos e9ξ]
              exact hXξ
          · have htqξ : rnq = (j9ξ : Int) := (Eq.trans htqξ) e9ξ
            subst htqξ
            have hxb9ξ := hXbξ j9ξ (by omega)
            have hm1ξ : V 33 (2000 + j9ξ) = (zRc V 2 50) (5 * j9ξ + 40) := (zRc_w (i := 1) (by omega) (by omega)).symm
            have hmjξ := hDwξ j9ξ (by omega)
            rw [← hm1ξ] at hmjξ ej8
            refine zp_store (L' := [(3, 0, (j9ξ : Int)), (2, 0, (p9ξ : Int)), (0, 2, (A 5 : Int)), (1, 0, (h9ξ : Int))]) (pc := 25) hx hb hnLξ (zd_X0_passHour (25, .istore_n 3, 1, 0, []) (List.mem_of_getElem? (i := 14) rfl)) rfl rfl rfl ?_
            refine zp_load (pc := 26) hx hb (zd_X0_passHour (26, .iload_n 3, 1, 0, []) (List.mem_of_getElem? (i := 15) rfl)) rfl (j := 0) rfl ?_
            refine zp_const (pc := 27) hx hb (zd_X0_passHour (27, .iconst (-1), 1, 0, []) (List.mem_of_getElem? (i := 16) rfl)) rfl rfl ?_
            refine zp_icmp (pc := 28) (tgt := 34) hx hb (zd_X0_passHour (28, .if_icmp .ne 6, 3, 0, []) (List.mem_of_getElem? (i := 17) rfl)) rfl (fun (hc470ξ : ¬ (j9ξ : Int) = (-1)) => ?_) (fun (hc470ξ : ¬ (¬ (j9ξ : Int) = (-1))) => ?_)
            · refine zp_load (pc := 34) hx hb (zd_X0_passHour (34, .aload_n 0, 1, 0, []) (List.mem_of_getElem? (i := 19) rfl)) rfl (j := 2) rfl ?_
              refine zp_getf (n := (A 4 : Int)) (pc := 35) hx hb hEξ hwξ (zd_X0_passHour (35, .getfield 21, 3, 0, []) (List.mem_of_getElem? (i := 20) rfl)) (j := 17) rfl rfl rfl (zM_P hMξ (hYbξ _ (List.mem_of_getElem? (i := 5) rfl))) ((zM_G hMξ (hYbξ _ (List.mem_of_getElem? (i := 5) rfl)) 0).trans (zM_F hMξ (hFbξ _ (List.mem_of_getElem? (i := 43) rfl)))) ?_
              refine zp_load (pc := 38) hx hb (zd_X0_passHour (38, .iload_n 1, 1, 0, []) (List.mem_of_getElem? (i := 21) rfl)) rfl (j := 3) rfl ?_
              refine zp_load (pc := 39) hx hb (zd_X0_passHour (39, .aload_n 0, 1, 0, []) (List.mem_of_getElem? (i := 22) rfl)) rfl (j := 2) rfl ?_
              refine zp_getf (n := (A 68 : Int)) (pc := 40) hx hb hEξ hwξ (zd_X0_passHour (40, .getfield 9, 3, 0, []) (List.mem_of_getElem? (i := 23) rfl)) (j := 20) rfl rfl rfl (zM_P hMξ (hYbξ _ (List.mem_of_getElem? (i := 5) rfl))) ((zM_G hMξ (hYbξ _ (List.mem_of_getElem? (i := 5) rfl)) 3).trans (zM_F hMξ (hFbξ _ (List.mem_of_getElem? (i := 44) rfl)))) ?_
              refine zp_load (pc := 43) hx hb (zd_X0_passHour (43, .iload_n 1, 1, 0, []) (List.mem_of_getElem? (i := 24) rfl)) rfl (j := 3) rfl ?_
              refine zp_iald (j := h9ξ) (v := (zd_pw (zd_ru (zRc V 2 50) Lwξ t0ξ) t0ξ h9ξ)) (pc := 44) hx hb hwξ (zd_X0_passHour (44, .iaload, 1, 0, []) (List.mem_of_getElem? (i := 25) rfl)) (show zp_ia 1 14 = some (24, 0, 0, (-2147483648), 2147483647) from rfl) (zM_P hMξ (hYbξ _ (List.mem_of_getElem? (i := 46) rfl))) (by omega) (by omega) ((zM_G hMξ (hYbξ _ (List.mem_of_getElem? (i := 46) rfl)) (2000 + h9ξ)).trans (hpwξ h9ξ (by omega))) (fun hk471ξ => ?_)
              have hk471bξ := zp_int hk471ξ
              clear hk471ξ
              refine zp_load (pc := 45) hx hb (zd_X0_passHour (45, .iload_n 2, 1, 0, []) (List.mem_of_getElem? (i := 26) rfl)) rfl (j := 1) rfl ?_
              refine zp_load (pc := 46) hx hb (zd_X0_passHour (46, .aload_n 0, 1, 0, []) (List.mem_of_getElem? (i := 27) rfl)) rfl (j := 2) rfl ?_
              refine zp_getf (n := (A 2 : Int)) (pc := 47) hx hb hEξ hwξ (zd_X0_passHour (47, .getfield 35, 3, 0, []) (List.mem_of_getElem? (i := 28) rfl)) (j := 19) rfl rfl rfl (zM_P hMξ (hYbξ _ (List.mem_of_getElem? (i := 5) rfl))) ((zM_G hMξ (hYbξ _ (List.mem_of_getElem? (i := 5) rfl)) 2).trans h52ξ) ?_
              refine zp_getf (n := (A 50 : Int)) (pc := 50) hx hb hEξ hwξ (zd_X0_passHour (50, .getfield 93, 3, 0, []) (List.mem_of_getElem? (i := 29) rfl)) (j := 0) rfl rfl rfl (zM_P hMξ (hYbξ _ (List.mem_of_getElem? (i := 2) rfl))) ((zM_G hMξ (hYbξ _ (List.mem_of_getElem? (i := 2) rfl)) 0).trans (zM_F hMξ (hFbξ _ (List.mem_of_getElem? (i := 25) rfl)))) ?_
              refine zp_load (pc := 53) hx hb (zd_X0_passHour (53, .iload_n 2, 1, 0, []) (List.mem_of_getElem? (i := 30) rfl)) rfl (j := 1) rfl ?_
              refine zp_iald (j := p9ξ) (v := (V 50 (2000 + p9ξ))) (pc := 54) hx hb hwξ (zd_X0_passHour (54, .iaload, 1, 0, []) (List.mem_of_getElem? (i := 31) rfl)) (show zp_ia 1 17 = some (6, 0, 0, (-2147483648), 2147483647) from rfl) (zM_P hMξ (hYbξ _ (List.mem_of_getElem? (i := 28) rfl))) (by omega) (by omega) ((zM_G hMξ (hYbξ _ (List.mem_of_getElem? (i := 28) rfl)) (2000 + p9ξ)).trans (hVξ 50 (2000 + p9ξ) (by decide))) (fun hk472ξ => ?_)
              have hk472bξ := zp_int hk472ξ
              clear hk472ξ
              refine zp_load (pc := 55) hx hb (zd_X0_passHour (55, .aload_n 0, 1, 0, []) (List.mem_of_getElem? (i := 32) rfl)) rfl (j := 2) rfl ?_
              refine zp_getf (n := (A 2 : Int)) (pc := 56) hx hb hEξ hwξ (zd_X0_passHour (56, .getfield 35, 3, 0, []) (List.mem_of_getElem? (i := 33) rfl)) (j := 19) rfl rfl rfl (zM_P hMξ (hYbξ _ (List.mem_of_getElem? (i := 5) rfl))) ((zM_G hMξ (hYbξ _ (List.mem_of_getElem? (i := 5) rfl)) 2).trans h52ξ) ?_
              refine zp_getf (n := (A 51 : Int)) (pc := 59) hx hb hEξ hwξ (zd_X0_passHour (59, .getfield 96, 3, 0, []) (List.mem_of_getElem? (i := 34) rfl)) (j := 1) rfl rfl rfl (zM_P hMξ (hYbξ _ (List.mem_of_getElem? (i := 2) rfl))) ((zM_G hMξ (hYbξ _ (List.mem_of_getElem? (i := 2) rfl)) 1).trans (zM_F hMξ (hFbξ _ (List.mem_of_getElem? (i := 26) rfl)))) ?_
              refine zp_load (pc := 62) hx hb (zd_X0_passHour (62, .iload_n 2, 1, 0, []) (List.mem_of_getElem? (i := 35) rfl)) rfl (j := 1) rfl ?_
              refine zp_iald (j := p9ξ) (v := (V 51 (2000 + p9ξ))) (pc := 63) hx hb hwξ (zd_X0_passHour (63, .iaload, 1, 0, []) (List.mem_of_getElem? (i := 36) rfl)) (show zp_ia 1 18 = some (6, 0, 0, 0, 45) from rfl) (zM_P hMξ (hYbξ _ (List.mem_of_getElem? (i := 29) rfl))) (by omega) (by omega) ((zM_G hMξ (hYbξ _ (List.mem_of_getElem? (i := 29) rfl)) (2000 + p9ξ)).trans (hVξ 51 (2000 + p9ξ) (by decide))) (fun hk473ξ => ?_)
              have hk473bξ := zp_int hk473ξ
              clear hk473ξ
              have hlr474ξ := zg_lawM hMξ hYF0ξ hVξ hAbξ (pw := (zd_pw (zd_ru (zRc V 2 50) Lwξ t0ξ) t0ξ h9ξ)) (hrξ := (h9ξ : Int)) (p := (p9ξ : Int)) (o := (V 50 (2000 + p9ξ))) (l := (V 51 (2000 + p9ξ))) (by omega) (by omega) (by omega) (by omega) (by omega) (zc_po (g := 2) (b := 50) (by omega)) (zc_pl9 (g := 2) (b := 50) (by omega))
              refine zp_call (pc := 64) (how := 0) (idx := 99) (mi := 111) (S := []) hx hb hEξ hwξ heffξ hrmξ (zX_sp_ hWξ (A 66) (fun j => M 66 (2000 + j)) (zg_ew (zRc V 2 50) zd_S0 t0ξ (zd_pw (zd_ru (zRc V 2 50) Lwξ t0ξ) t0ξ h9ξ) (h9ξ : Int) (p9ξ : Int)) Lwξ) rfl (j := 8) rfl rfl (by decide +kernel) (zd_X0_passHour (64, .invokevirtual 99, 3, 0, []) (List.mem_of_getElem? (i := 37) rfl)) [(A 4 : Int), (h9ξ : Int), (zd_pw (zd_ru (zRc V 2 50) Lwξ t0ξ) t0ξ h9ξ), (p9ξ : Int), (V 50 (2000 + p9ξ)), (V 51 (2000 + p9ξ))] rfl ⟨zp_o2 (zM_P hMξ (hYbξ _ (List.mem_of_getElem? (i := 4) rfl))), zp_o0 (by omega) (by omega) (by omega) (by omega), zp_o0 (by omega) (by omega) (by omega) (by omega), zp_o0 (by omega) (by omega) (by omega) (by omega), zp_o0 (by omega) (by omega) (by omega) (by omega), zp_o0 (by omega) (by omega) (by omega) (by omega), trivial⟩ (Nat.le_of_ble_eq_true rfl) hlr474ξ (fun al halξ rnr474ξ Pr474 Gr474 hextr474ξ hfrr474ξ hokr474ξ hcsr474ξ hpsir474ξ => ?_)
              obtain rfl := List.mem_singleton.mp halξ
              have hrr474ξ := zp_int (hokr474ξ _ rfl).1
              obtain ⟨hPer474ξ, hWnr474ξ, htr474ξ⟩ := hpsir474ξ
              obtain ⟨Mr474, hMr474ξ, hMkr474ξ, hM6r474ξ⟩ := zM_rul hMξ hYF0ξ hfrr474ξ hextr474ξ
              subst hPer474ξ
              have hVr474ξ : ∀ o k, zNc o → Mr474 o k = V o k := fun o k hkξ => (hMkr474ξ o k (fun e => hkξ (by rw [e]; decide)) (fun e => hkξ (by rw [e]; decide))).trans (hVξ o k hkξ)
              have hAbr474ξ := zAb_n (hAbξ) (fun j => (hM6r474ξ (2000 + j)).trans (hWnr474ξ j)) hlr474ξ.1.2.2.2.2.1 (hMkr474ξ 4 2 (by decide) (by decide))
              clear hextr474ξ hfrr474ξ hokr474ξ hcsr474ξ hlr474ξ
              have htr474ξ : rnr474ξ = (zy_sp (zg_ew (zRc V 2 50) zd_S0 t0ξ (zd_pw (zd_ru (zRc V 2 50) Lwξ t0ξ) t0ξ h9ξ) (h9ξ : Int) (p9ξ : Int)) Lwξ (zd_pw (zd_ru (zRc V 2 50) Lwξ t0ξ) t0ξ h9ξ) (V 51 (2000 + p9ξ))) := htr474ξ
              have htr474ξ : rnr474ξ = (zd_sp (zRc V 2 50) Lwξ t0ξ (zd_pw (zd_ru (zRc V 2 50) Lwξ t0ξ) t0ξ h9ξ) h9ξ p9ξ) := by
                rw [htr474ξ]
                unfold zd_sp
                rw [zRc_l (show p9ξ < 6 by omega)]
              have htr474ξ := (Eq.symm htr474ξ)
              subst htr474ξ
              refine zp_store (L' := [(4, 0, (zd_sp (zRc V 2 50) Lwξ t0ξ (zd_pw (zd_ru (zRc V 2 50) Lwξ t0ξ) t0ξ h9ξ) h9ξ p9ξ)), (3, 0, (j9ξ : Int)), (2, 0, (p9ξ : Int)), (0, 2, (A 5 : Int)), (1, 0, (h9ξ : Int))]) (pc := 67) hx hb hnLξ (zd_X0_passHour (67, .istore 4, 2, 0, []) (List.mem_of_getElem? (i := 38) rfl)) rfl rfl rfl ?_
              refine zp_load (pc := 69) hx hb (zd_X0_passHour (69, .aload_n 0, 1, 0, []) (List.mem_of_getElem? (i := 39) rfl)) rfl (j := 3) rfl ?_
              refine zp_getf (n := (A 69 : Int)) (pc := 70) hx hb hEξ hwξ (zd_X0_passHour (70, .getfield 15, 3, 0, []) (List.mem_of_getElem? (i := 40) rfl)) (j := 21) rfl rfl rfl (zM_P hMr474ξ (hYbξ _ (List.mem_of_getElem? (i := 5) rfl))) ((zM_G hMr474ξ (hYbξ _ (List.mem_of_getElem? (i := 5) rfl)) 4).trans (zM_F hMr474ξ (hFbξ _ (List.mem_of_getElem? (i := 45) rfl)))) ?_
              refine zp_load (pc := 73) hx hb (zd_X0_passHour (73, .iload_n 3, 1, 0, []) (List.mem_of_getElem? (i := 41) rfl)) rfl (j := 1) rfl ?_
              refine zp_load (pc := 74) hx hb (zd_X0_passHour (74, .aload_n 0, 1, 0, []) (List.mem_of_getElem? (i := 42) rfl)) rfl (j := 3) rfl ?_
              refine zp_getf (n := (A 1 : Int)) (pc := 75) hx hb hEξ hwξ (zd_X0_passHour (75, .getfield 25, 3, 0, []) (List.mem_of_getElem? (i := 43) rfl)) (j := 18) rfl rfl rfl (zM_P hMr474ξ (hYbξ _ (List.mem_of_getElem? (i := 5) rfl))) ((zM_G hMr474ξ (hYbξ _ (List.mem_of_getElem? (i := 5) rfl)) 1).trans (Eq.trans (hMkr474ξ 5 1 (by decide) (by decide)) h51ξ)) ?_
              refine zp_getf (n := (A 33 : Int)) (pc := 78) hx hb hEξ hwξ (zd_X0_passHour (78, .getfield 103, 3, 0, []) (List.mem_of_getElem? (i := 44) rfl)) (j := 7) rfl rfl rfl (zM_P hMr474ξ (hYbξ _ (List.mem_of_getElem? (i := 1) rfl))) ((zM_G hMr474ξ (hYbξ _ (List.mem_of_getElem? (i := 1) rfl)) 5).trans (zM_F hMr474ξ (hFbξ _ (List.mem_of_getElem? (i := 16) rfl)))) ?_
              refine zp_load (pc := 81) hx hb (zd_X0_passHour (81, .iload_n 3, 1, 0, []) (List.mem_of_getElem? (i := 45) rfl)) rfl (j := 1) rfl ?_
              refine zp_iald (j := j9ξ) (v := (V 33 (2000 + j9ξ))) (pc := 82) hx hb hwξ (zd_X0_passHour (82, .iaload, 1, 0, []) (List.mem_of_getElem? (i := 46) rfl)) (show zp_ia 1 45 = some (10, 0, 0, (-2147483648), 2147483647) from rfl) (zM_P hMr474ξ (hYbξ _ (List.mem_of_getElem? (i := 20) rfl))) (by omega) (by omega) ((zM_G hMr474ξ (hYbξ _ (List.mem_of_getElem? (i := 20) rfl)) (2000 + j9ξ)).trans (hVr474ξ 33 (2000 + j9ξ) (by decide))) (fun hk475ξ => ?_)
              have hk475bξ := zp_int hk475ξ
              clear hk475ξ
              refine zp_load (pc := 83) hx hb (zd_X0_passHour (83, .aload_n 0, 1, 0, []) (List.mem_of_getElem? (i := 47) rfl)) rfl (j := 3) rfl ?_
              refine zp_getf (n := (A 69 : Int)) (pc := 84) hx hb hEξ hwξ (zd_X0_passHour (84, .getfield 15, 3, 0, []) (List.mem_of_getElem? (i := 48) rfl)) (j := 21) rfl rfl rfl (zM_P hMr474ξ (hYbξ _ (List.mem_of_getElem? (i := 5) rfl))) ((zM_G hMr474ξ (hYbξ _ (List.mem_of_getElem? (i := 5) rfl)) 4).trans (zM_F hMr474ξ (hFbξ _ (List.mem_of_getElem? (i := 45) rfl)))) ?_
              refine zp_load (pc := 87) hx hb (zd_X0_passHour (87, .iload_n 3, 1, 0, []) (List.mem_of_getElem? (i := 49) rfl)) rfl (j := 1) rfl ?_
              refine zp_iald (j := j9ξ) (v := (X.1 j9ξ)) (pc := 88) hx hb hwξ (zd_X0_passHour (88, .iaload, 1, 0, []) (List.mem_of_getElem? (i := 50) rfl)) (show zp_ia 1 15 = some (10, 0, 0, (-2147483648), 2147483647) from rfl) (zM_P hMr474ξ (hYbξ _ (List.mem_of_getElem? (i := 47) rfl))) (by omega) (by omega) ((zM_G hMr474ξ (hYbξ _ (List.mem_of_getElem? (i := 47) rfl)) (2000 + j9ξ)).trans (Eq.trans (hMkr474ξ 69 (2000 + j9ξ) (by decide) (by decide)) (hXξ j9ξ (by omega)).1)) (fun hk476ξ => ?_)
              have hk476bξ := zp_int hk476ξ
              clear hk476ξ
              refine zp_load (pc := 89) hx hb (zd_X0_passHour (89, .iload 4, 2, 0, []) (List.mem_of_getElem? (i := 51) rfl)) rfl (j := 0) rfl ?_
              refine zp_add (n := ((X.1 j9ξ) + (zd_sp (zRc V 2 50) Lwξ t0ξ (zd_pw (zd_ru (zRc V 2 50) Lwξ t0ξ) t0ξ h9ξ) h9ξ p9ξ))) (pc := 91) hx hb (zd_X0_passHour (91, .iadd, 1, 0, []) (List.mem_of_getElem? (i := 52) rfl)) (by omega) (zp_r0 (by omega) (by omega)) ?_
              refine zp_mm (n := (min (V 33 (2000 + j9ξ)) ((X.1 j9ξ) + (zd_sp (zRc V 2 50) Lwξ t0ξ (zd_pw (zd_ru (zRc V 2 50) Lwξ t0ξ) t0ξ h9ξ) h9ξ p9ξ)))) (S := [(0, (j9ξ : Int)), (2, (A 69 : Int))]) (pc := 92) hx hb hEξ hrmξ (zd_X0_passHour (92, .invokestatic 106, 3, 0, []) (List.mem_of_getElem? (i := 53) rfl)) (j := 25) rfl (Or.inr ⟨rfl, by omega⟩) ⟨by decide, Nat.le_of_ble_eq_true rfl⟩ ?_
              refine zp_iast (j := j9ξ) (pc := 95) hx hb hwξ heffξ (zd_X0_passHour (95, .iastore, 1, 0, []) (List.mem_of_getElem? (i := 54) rfl)) (show zp_ia 1 15 = some (10, 0, 0, (-2147483648), 2147483647) from rfl) (zM_P hMr474ξ (hYbξ _ (List.mem_of_getElem? (i := 47) rfl))) (by omega) (by omega) (zp_o0 (by omega) (by omega) (by omega) (by omega)) rfl ?_
              refine zp_load (pc := 96) hx hb (zd_X0_passHour (96, .aload_n 0, 1, 0, []) (List.mem_of_getElem? (i := 55) rfl)) rfl (j := 3) rfl ?_
              refine zp_getf (n := (A 69 : Int)) (pc := 97) hx hb hEξ hwξ (zd_X0_passHour (97, .getfield 15, 3, 0, []) (List.mem_of_getElem? (i := 56) rfl)) (j := 21) rfl rfl rfl (zM_P hMr474ξ (hYbξ _ (List.mem_of_getElem? (i := 5) rfl))) ((zp_set_ne (Or.inl (zM_ne hMr474ξ (hYbξ _ (List.mem_of_getElem? (i := 5) rfl)) (hYbξ _ (List.mem_of_getElem? (i := 47) rfl)) (by decide)))).trans (((zM_G hMr474ξ (hYbξ _ (List.mem_of_getElem? (i := 5) rfl)) 4).trans (zM_F hMr474ξ (hFbξ _ (List.mem_of_getElem? (i := 45) rfl)))))) ?_
              refine zp_load (pc := 100) hx hb (zd_X0_passHour (100, .iload_n 3, 1, 0, []) (List.mem_of_getElem? (i := 57) rfl)) rfl (j := 1) rfl ?_
              refine zp_iald (j := j9ξ) (v := (min (V 33 (2000 + j9ξ)) ((X.1 j9ξ) + (zd_sp (zRc V 2 50) Lwξ t0ξ (zd_pw (zd_ru (zRc V 2 50) Lwξ t0ξ) t0ξ h9ξ) h9ξ p9ξ)))) (pc := 101) hx hb hwξ (zd_X0_passHour (101, .iaload, 1, 0, []) (List.mem_of_getElem? (i := 58) rfl)) (show zp_ia 1 15 = some (10, 0, 0, (-2147483648), 2147483647) from rfl) (zM_P hMr474ξ (hYbξ _ (List.mem_of_getElem? (i := 47) rfl))) (by omega) (by omega) zp_set_self (fun hk477ξ => ?_)
              have hk477bξ := zp_int hk477ξ
              clear hk477ξ
              refine zp_load (pc := 102) hx hb (zd_X0_passHour (102, .aload_n 0, 1, 0, []) (List.mem_of_getElem? (i := 59) rfl)) rfl (j := 3) rfl ?_
              refine zp_getf (n := (A 1 : Int)) (pc := 103) hx hb hEξ hwξ (zd_X0_passHour (103, .getfield 25, 3, 0, []) (List.mem_of_getElem? (i := 60) rfl)) (j := 18) rfl rfl rfl (zM_P hMr474ξ (hYbξ _ (List.mem_of_getElem? (i := 5) rfl))) ((zp_set_ne (Or.inl (zM_ne hMr474ξ (hYbξ _ (List.mem_of_getElem? (i := 5) rfl)) (hYbξ _ (List.mem_of_getElem? (i := 47) rfl)) (by decide)))).trans (((zM_G hMr474ξ (hYbξ _ (List.mem_of_getElem? (i := 5) rfl)) 1).trans (Eq.trans (hMkr474ξ 5 1 (by decide) (by decide)) h51ξ)))) ?_
              refine zp_getf (n := (A 33 : Int)) (pc := 106) hx hb hEξ hwξ (zd_X0_passHour (106, .getfield 103, 3, 0, []) (List.mem_of_getElem? (i := 61) rfl)) (j := 7) rfl rfl rfl (zM_P hMr474ξ (hYbξ _ (List.mem_of_getElem? (i := 1) rfl))) ((zp_set_ne (Or.inl (zM_ne hMr474ξ (hYbξ _ (List.mem_of_getElem? (i := 1) rfl)) (hYbξ _ (List.mem_of_getElem? (i := 47) rfl)) (by decide)))).trans (((zM_G hMr474ξ (hYbξ _ (List.mem_of_getElem? (i := 1) rfl)) 5).trans (zM_F hMr474ξ (hFbξ _ (List.mem_of_getElem? (i := 16) rfl)))))) ?_
              refine zp_load (pc := 109) hx hb (zd_X0_passHour (109, .iload_n 3, 1, 0, []) (List.mem_of_getElem? (i := 62) rfl)) rfl (j := 1) rfl ?_
              refine zp_iald (j := j9ξ) (v := (V 33 (2000 + j9ξ))) (pc := 110) hx hb hwξ (zd_X0_passHour (110, .iaload, 1, 0, []) (List.mem_of_getElem? (i := 63) rfl)) (show zp_ia 1 45 = some (10, 0, 0, (-2147483648), 2147483647) from rfl) (zM_P hMr474ξ (hYbξ _ (List.mem_of_getElem? (i := 20) rfl))) (by omega) (by omega) ((zp_set_ne (Or.inl (zM_ne hMr474ξ (hYbξ _ (List.mem_of_getElem? (i := 20) rfl)) (hYbξ _ (List.mem_of_getElem? (i := 47) rfl)) (by decide)))).trans (((zM_G hMr474ξ (hYbξ _ (List.mem_of_getElem? (i := 20) rfl)) (2000 + j9ξ)).trans (hVr474ξ 33 (2000 + j9ξ) (by decide))))) (fun hk478ξ => ?_)
              have hk478bξ := zp_int hk478ξ
              clear hk478ξ
              refine zp_icmp (pc := 111) (tgt := 121) hx hb (zd_X0_passHour (111, .if_icmp .ne 10, 3, 0, []) (List.mem_of_getElem? (i := 64) rfl)) rfl (fun (hc479ξ : ¬ (min (V 33 (2000 + j9ξ)) ((X.1 j9ξ) + (zd_sp (zRc V 2 50) Lwξ t0ξ (zd_pw (zd_ru (zRc V 2 50) Lwξ t0ξ) t0ξ h9ξ) h9ξ p9ξ))) = (V 33 (2000 + j9ξ))) => ?_) (fun (hc479ξ : ¬ (¬ (min (V 33 (2000 + j9ξ)) ((X.1 j9ξ) + (zd_sp (zRc V 2 50) Lwξ t0ξ (zd_pw (zd_ru (zRc V 2 50) Lwξ t0ξ) t0ξ h9ξ) h9ξ p9ξ))) = (V 33 (2000 + j9ξ)))) => ?_)
              · refine zp_iinc (L' := [(2, 0, ((p9ξ : Int) + 1)), (4, 0, (zd_sp (zRc V 2 50) Lwξ t0ξ (zd_pw (zd_ru (zRc V 2 50) Lwξ t0ξ) t0ξ h9ξ) h9ξ p9ξ)), (3, 0, (j9ξ : Int)), (0, 2, (A 5 : Int)), (1, 0, (h9ξ : Int))]) (n := ((p9ξ : Int) + 1)) (pc := 121) hx hb hnLξ (zd_X0_passHour (121, .iinc 2 1, 3, 0, []) (List.mem_of_getElem? (i := 70) rfl)) (j := 2) rfl (by omega) (zp_r0 (by omega) (by omega)) rfl rfl ?_
                refine zp_goto (tgt := 2) (pc := 124) hx hb (zd_X0_passHour (124, .goto (-122), 3, 0, []) (List.mem_of_getElem? (i := 71) rfl)) rfl ?_
                refine zp_drop (L' := [(2, 0, ((p9ξ : Int) + 1)), (0, 2, (A 5 : Int)), (1, 0, (h9ξ : Int))]) (by simp) ?_
                refine ih (p9ξ + 1) (zp_set Mr474 69 (2000 + j9ξ) (min (V 33 (2000 + j9ξ)) ((X.1 j9ξ) + (zd_sp (zRc V 2 50) Lwξ t0ξ (zd_pw (zd_ru (zRc V 2 50) Lwξ t0ξ) t0ξ h9ξ) h9ξ p9ξ)))) (zp_set Gr474 (A 69) (2000 + j9ξ) (min (V 33 (2000 + j9ξ)) ((X.1 j9ξ) + (zd_sp (zRc V 2 50) Lwξ t0ξ (zd_pw (zd_ru (zRc V 2 50) Lwξ t0ξ) t0ξ h9ξ) h9ξ p9ξ)))) (by omega) (zM_setE hMr474ξ (hYbξ _ (List.mem_of_getElem? (i := 47) rfl))) (zV_scr hVr474ξ (by decide)) ⟨(zAb_f (V' := V) (R' := (zRc V 2 50)) (M' := (zp_set Mr474 69 (2000 + j9ξ) (min (V 33 (2000 + j9ξ)) ((X.1 j9ξ) + (zd_sp (zRc V 2 50) Lwξ t0ξ (zd_pw (zd_ru (zRc V 2 50) Lwξ t0ξ) t0ξ h9ξ) h9ξ p9ξ))))) hAbr474ξ (fun o k h9ξ => (zp_set_ne (Or.inl (by rcases h9ξ with rfl | ⟨rfl, -⟩ <;> decide))).trans (rfl)) (fun o k h9ξ => rfl) ⟨rfl, rfl, rfl⟩), ⟨((zp_set_ne (Or.inl (by decide))).trans ((Eq.trans (hMkr474ξ 5 1 (by decide) (by decide)) h51ξ))), ((zp_set_ne (Or.inl (by decide))).trans ((Eq.trans (hMkr474ξ 5 2 (by decide) (by decide)) h52ξ)))⟩, fun h hhξ => (zp_set_ne (Or.inl (by decide))).trans ((hMkr474ξ 68 _ (by decide) (by decide)).trans (hpwξ h hhξ)), ?_⟩
                have hX9ξ : zDX X Mr474 := fun w hwξ => ⟨(hMkr474ξ 69 _ (by decide) (by decide)).trans (hXξ w hwξ).1, (hMkr474ξ 70 _ (by decide) (by decide)).trans (hXξ w hwξ).2⟩
                rw [zd_hp, ← hXeξ]
                unfold zd_ps
                rw [if_neg (by omega), e9ξ, Int.toNat_natCast, ← hm1ξ]
                intro w hwξ
                by_cases e8 : w = j9ξ
                · rw [e8]
                  have h4ξ := (hihξ j9ξ (by omega)).2.2.2 (by rw [← hm1ξ]; omega)
                  exact ⟨zp_set_self.trans (Eq.trans (by omega) (yu_at).symm), (zp_set_ne (Or.inl (by decide))).trans ((hX9ξ j9ξ (by omega)).2.trans ((Eq.trans h4ξ) (Eq.trans (if_neg (by omega)).symm (yu_at).symm)))⟩
                · exact ⟨(zp_set_ne (Or.inr (by omega))).trans (((hX9ξ w hwξ).1.trans (yu_ne e8).symm)), (zp_set_ne (Or.inl (by decide))).trans (((hX9ξ w hwξ).2.trans (yu_ne e8).symm))⟩
              · refine zp_load (pc := 114) hx hb (zd_X0_passHour (114, .aload_n 0, 1, 0, []) (List.mem_of_getElem? (i := 65) rfl)) rfl (j := 3) rfl ?_
                refine zp_getf (n := (A 70 : Int)) (pc := 115) hx hb hEξ hwξ (zd_X0_passHour (115, .getfield 18, 3, 0, []) (List.mem_of_getElem? (i := 66) rfl)) (j := 22) rfl rfl rfl (zM_P hMr474ξ (hYbξ _ (List.mem_of_getElem? (i := 5) rfl))) ((zp_set_ne (Or.inl (zM_ne hMr474ξ (hYbξ _ (List.mem_of_getElem? (i := 5) rfl)) (hYbξ _ (List.mem_of_getElem? (i := 47) rfl)) (by decide)))).trans (((zM_G hMr474ξ (hYbξ _ (List.mem_of_getElem? (i := 5) rfl)) 5).trans (zM_F hMr474ξ (hFbξ _ (List.mem_of_getElem? (i := 46) rfl)))))) ?_
                refine zp_load (pc := 118) hx hb (zd_X0_passHour (118, .iload_n 3, 1, 0, []) (List.mem_of_getElem? (i := 67) rfl)) rfl (j := 1) rfl ?_
                refine zp_load (pc := 119) hx hb (zd_X0_passHour (119, .iload_n 1, 1, 0, []) (List.mem_of_getElem? (i := 68) rfl)) rfl (j := 4) rfl ?_
                refine zp_iast (j := j9ξ) (pc := 120) hx hb hwξ heffξ (zd_X0_passHour (120, .iastore, 1, 0, []) (List.mem_of_getElem? (i := 69) rfl)) (show zp_ia 1 16 = some (10, 0, 0, (-2147483648), 2147483647) from rfl) (zM_P hMr474ξ (hYbξ _ (List.mem_of_getElem? (i := 48) rfl))) (by omega) (by omega) (zp_o0 (by omega) (by omega) (by omega) (by omega)) rfl ?_
                refine zp_iinc (L' := [(2, 0, ((p9ξ : Int) + 1)), (4, 0, (zd_sp (zRc V 2 50) Lwξ t0ξ (zd_pw (zd_ru (zRc V 2 50) Lwξ t0ξ) t0ξ h9ξ) h9ξ p9ξ)), (3, 0, (j9ξ : Int)), (0, 2, (A 5 : Int)), (1, 0, (h9ξ : Int))]) (n := ((p9ξ : Int) + 1)) (pc := 121) hx hb hnLξ (zd_X0_passHour (121, .iinc 2 1, 3, 0, []) (List.mem_of_getElem? (i := 70) rfl)) (j := 2) rfl (by omega) (zp_r0 (by omega) (by omega)) rfl rfl ?_
                refine zp_goto (tgt := 2) (pc := 124) hx hb (zd_X0_passHour (124, .goto (-122), 3, 0, []) (List.mem_of_getElem? (i := 71) rfl)) rfl ?_
                refine zp_drop (L' := [(2, 0, ((p9ξ : Int) + 1)), (0, 2, (A 5 : Int)), (1, 0, (h9ξ : Int))]) (by simp) ?_
                refine ih (p9ξ + 1) (zp_set (zp_set Mr474 69 (2000 + j9ξ) (min (V 33 (2000 + j9ξ)) ((X.1 j9ξ) + (zd_sp (zRc V 2 50) Lwξ t0ξ (zd_pw (zd_ru (zRc V 2 50) Lwξ t0ξ) t0ξ h9ξ) h9ξ p9ξ)))) 70 (2000 + j9ξ) (h9ξ : Int)) (zp_set (zp_set Gr474 (A 69) (2000 + j9ξ) (min (V 33 (2000 + j9ξ)) ((X.1 j9ξ) + (zd_sp (zRc V 2 50) Lwξ t0ξ (zd_pw (zd_ru (zRc V 2 50) Lwξ t0ξ) t0ξ h9ξ) h9ξ p9ξ)))) (A 70) (2000 + j9ξ) (h9ξ : Int)) (by omega) (zM_setE (zM_setE hMr474ξ (hYbξ _ (List.mem_of_getElem? (i := 47) rfl))) (hYbξ _ (List.mem_of_getElem? (i := 48) rfl))) (zV_scr (zV_scr hVr474ξ (by decide)) (by decide)) ⟨(zAb_f (V' := V) (R' := (zRc V 2 50)) (M' := (zp_set (zp_set Mr474 69 (2000 + j9ξ) (min (V 33 (2000 + j9ξ)) ((X.1 j9ξ) + (zd_sp (zRc V 2 50) Lwξ t0ξ (zd_pw (zd_ru (zRc V 2 50) Lwξ t0ξ) t0ξ h9ξ) h9ξ p9ξ)))) 70 (2000 + j9ξ) (h9ξ : Int))) hAbr474ξ (fun o k h9ξ => (zp_set_ne (Or.inl (by rcases h9ξ with rfl | ⟨rfl, -⟩ <;> decide))).trans ((zp_set_ne (Or.inl (by rcases h9ξ with rfl | ⟨rfl, -⟩ <;> decide))).trans (rfl))) (fun o k h9ξ => rfl) ⟨rfl, rfl, rfl⟩), ⟨((zp_set_ne (Or.inl (by decide))).trans ((zp_set_ne (Or.inl (by decide))).trans ((Eq.trans (hMkr474ξ 5 1 (by decide) (by decide)) h51ξ)))), ((zp_set_ne (Or.inl (by decide))).trans ((zp_set_ne (Or.inl (by decide))).trans ((Eq.trans (hMkr474ξ 5 2 (by decide) (by decide)) h52ξ))))⟩, fun h hhξ => (zp_set_ne (Or.inl (by decide))).trans ((zp_set_ne (Or.inl (by decide))).trans ((hMkr474ξ 68 _ (by decide) (by decide)).trans (hpwξ h hhξ))), ?_⟩
                have hX9ξ : zDX X Mr474 := fun w hwξ => ⟨(hMkr474ξ 69 _ (by decide) (by decide)).trans (hXξ w hwξ).1, (hMkr474ξ 70 _ (by decide) (by decide)).trans (hXξ w hwξ).2⟩
                rw [zd_hp, ← hXeξ]
                unfold zd_ps
                rw [if_neg (by omega), e9ξ, Int.toNat_natCast, ← hm1ξ]
                intro w hwξ
                by_cases e8 : w = j9ξ
                · rw [e8]
                  exact ⟨(zp_set_ne (Or.inl (by decide))).trans (zp_set_self.trans (Eq.trans (by omega) (yu_at).symm)), zp_set_self.trans (Eq.trans (if_pos (by omega)).symm (yu_at).symm)⟩
                · exact ⟨(zp_set_ne (Or.inl (by decide))).trans ((zp_set_ne (Or.inr (by omega))).trans ((hX9ξ w hwξ).1.trans (yu_ne e8).symm)), (zp_set_ne (Or.inr (by omega))).trans ((zp_set_ne (Or.inl (by decide))).trans ((hX9ξ w hwξ).2.trans (yu_ne e8).symm))⟩
            · exfalso
              omega
  refine zp_const (pc := 0) hx hb (zd_X0_passHour (0, .iconst 0, 1, 0, []) (List.mem_of_getElem? (i := 0) rfl)) rfl rfl ?_
  refine zp_store (L' := [(2, 0, 0), (0, 2, (A 5 : Int)), (1, 0, (h9ξ : Int))]) (pc := 1) hx hb hnLξ (zd_X0_passHour (1, .istore_n 2, 1, 0, []) (List.mem_of_getElem? (i := 1) rfl)) rfl rfl rfl ?_
  exact loop npξ 0 M _ (by omega) hM00ξ hV0ξ hDs0ξ
/-- an object whose fields no effect names -/
theorem zp_nf5 {A : Nat → Nat} {Y : List (Nat × Nat)} {F : List (Nat × Nat × Nat)} {M' : Nat → Nat → Int} {P P' : Nat → Option Nat} {G G' : Nat → Nat → Int} {ps : List Int} (hfrξ : zp_fr [(6, 2, 0), (27, 1001, 0)] ps P G G') (hpξ : P (A 5) = some 0) (hM' : zM A Y F M' P' G') (hmξ : (5, 0) ∈ Y) (k : Nat) : M' 5 k = G (A 5) k := ((zM_G hM' hmξ k).symm).trans (zp_nc hfrξ hpξ (by decide +kernel) k)
noncomputable def zK_beg2 : zk_K := (zt_mn 105, prog_2_method_2_code, 6, (Option.none : Option Jvm.ClassFile.FieldType), 1, 0, [(2, 0, 0, 0), (2, 10, 0, 0), (2, 2, 0, 0), (0, 0, (-2147483648), 2147483647)], [(none, [])], zUC, (4, 240, 0, 0))
noncomputable def zφ_beg2 (A : Nat → Nat) (Y : List (Nat × Nat)) (F : List (Nat × Nat × Nat)) (V : Nat → Nat → Int) (n1ξ npξ : Nat) (t0ξ : Int) (Lwξ : List yK) : (Nat → Option Nat) → (Nat → Nat → Int) → List Int → Prop := fun P G ps => zMVc A Y F V P G ∧ ps.getD 0 0 = (A 5 : Int) ∧ zMc Y F ∧ (ps.getD 1 0) = (A 1 : Int) ∧ (ps.getD 2 0) = (A 2 : Int) ∧ t0ξ = (ps.getD 3 0) ∧ zLF A Y F V Lwξ ∧ zc_ok V 2 50 n1ξ npξ ∧ 0 ≤ t0ξ ∧ t0ξ ≤ 12
noncomputable def zψ_beg2 (A : Nat → Nat) (Y : List (Nat × Nat)) (F : List (Nat × Nat × Nat)) (V : Nat → Nat → Int) (n1ξ npξ : Nat) (t0ξ : Int) (Lwξ : List yK) : (Nat → Option Nat) → (Nat → Nat → Int) → List Int → (Nat → Option Nat) → (Nat → Nat → Int) → Int → Prop := fun P G ps P' G' rn => P' = P ∧ zMDs A Y F V Lwξ 2 50 t0ξ (zd_hr (zRc V 2 50) n1ξ npξ (zd_sp (zRc V 2 50) Lwξ t0ξ) (zd_ru (zRc V 2 50) Lwξ t0ξ) t0ξ 0) P' G'
theorem zX_beg2 {l : Launch} {w : zk_W} (hWξ : zh_W w) (A : Nat → Nat) (Y : List (Nat × Nat)) (F : List (Nat × Nat × Nat)) (V : Nat → Nat → Int) (n1ξ npξ : Nat) (t0ξ : Int) (Lwξ : List yK) : zk_metX l w zt_dv zt_TB zK_beg2 (zp_A (zφ_beg2 A Y F V n1ξ npξ t0ξ Lwξ)) (zp_B (zψ_beg2 A Y F V n1ξ npξ t0ξ Lwξ)) ∧ zk_cok w zt_TB zK_beg2 := by
  refine zp_methX (cn := "WoundTown$Day") zp_lkallDy hWξ (pl := 997) rfl (by decide +kernel) (fun p e R s m args below meth c Q u hx hb hEξ hQξ hU5ξ heffξ hnLξ hokξ hφ => ?_)
  have hwξ := hWξ.1
  obtain ⟨p0ξ, p1ξ, p2ξ, p3ξ, hpsξ, tk0, tk1, tk2, tk3⟩ := zp_ps4 hokξ
  have hrmξ : zk_Kr (zk_ev (zt_types, zp_lkDy, zt_dv, [], [], zp_lcDy, zK_beg2)) = zk_Kr zK_beg2 := rfl
  rw [hpsξ] at hφ ⊢
  have hφ : zMVc A Y F V u.1 (zp_n u.2.1) ∧ p0ξ = (A 5 : Int) ∧ zMc Y F ∧ p1ξ = (A 1 : Int) ∧ p2ξ = (A 2 : Int) ∧ t0ξ = p3ξ ∧ zLF A Y F V Lwξ ∧ zc_ok V 2 50 n1ξ npξ ∧ 0 ≤ t0ξ ∧ t0ξ ≤ 12 := hφ
  obtain ⟨⟨M, hMξ, hVξ, hSbξ⟩, rfl, hYFξ, rfl, rfl, rfl, hlwξ, hokξ, ht0ξ, ht12ξ⟩ := hφ
  have hYF0ξ := hYFξ
  obtain ⟨hYbξ, hFbξ, hFxξ, -⟩ := hYFξ
  have hi3ξ := zp_int tk3
  show zp_J p l e R s m args below meth c Q w u [] 0 [(0, 2, (A 5 : Int)), (1, 2, (A 1 : Int)), (2, 2, (A 2 : Int)), (3, 0, t0ξ)] [] u.1 (zp_n u.2.1)
  obtain ⟨hn10ξ, hnp6ξ, hn1ξ, hnpξ, hDwξ, hDpξ⟩ := hokξ.1
  have hn1ξ : V 1 3 = (n1ξ : Int) := hn1ξ
  have hnpξ : V 1 1 = (npξ : Int) := hnpξ
  refine zp_load (pc := 0) hx hb (zd_X0_begin (0, .aload_n 0, 1, 0, []) (List.mem_of_getElem? (i := 0) rfl)) rfl (j := 0) rfl ?_
  refine zp_load (pc := 1) hx hb (zd_X0_begin (1, .aload_n 1, 1, 0, []) (List.mem_of_getElem? (i := 1) rfl)) rfl (j := 1) rfl ?_
  refine zp_putr (pc := 2) hx hb hEξ hwξ heffξ (zd_X0_begin (2, .putfield 25, 3, 0, []) (List.mem_of_getElem? (i := 2) rfl)) (j := 18) rfl rfl rfl (zM_P hMξ (hYbξ _ (List.mem_of_getElem? (i := 5) rfl))) (zp_o2 (zM_P hMξ (hYbξ _ (List.mem_of_getElem? (i := 1) rfl)))) ?_
  refine zp_load (pc := 5) hx hb (zd_X0_begin (5, .aload_n 0, 1, 0, []) (List.mem_of_getElem? (i := 3) rfl)) rfl (j := 0) rfl ?_
  refine zp_load (pc := 6) hx hb (zd_X0_begin (6, .aload_n 2, 1, 0, []) (List.mem_of_getElem? (i := 4) rfl)) rfl (j := 2) rfl ?_
  refine zp_putr (pc := 7) hx hb hEξ hwξ heffξ (zd_X0_begin (7, .putfield 35, 3, 0, []) (List.mem_of_getElem? (i := 5) rfl)) (j := 19) rfl rfl rfl (zM_P hMξ (hYbξ _ (List.mem_of_getElem? (i := 5) rfl))) (zp_o2 (zM_P hMξ (hYbξ _ (List.mem_of_getElem? (i := 2) rfl)))) ?_
  refine zp_load (pc := 10) hx hb (zd_X0_begin (10, .aload_n 0, 1, 0, []) (List.mem_of_getElem? (i := 6) rfl)) rfl (j := 0) rfl ?_
  refine zp_getf (n := (A 4 : Int)) (pc := 11) hx hb hEξ hwξ (zd_X0_begin (11, .getfield 21, 3, 0, []) (List.mem_of_getElem? (i := 7) rfl)) (j := 17) rfl rfl rfl (zM_P hMξ (hYbξ _ (List.mem_of_getElem? (i := 5) rfl))) ((zp_set_ne (Or.inr (by decide))).trans ((zp_set_ne (Or.inr (by decide))).trans (((zM_G hMξ (hYbξ _ (List.mem_of_getElem? (i := 5) rfl)) 0).trans (zM_F hMξ (hFbξ _ (List.mem_of_getElem? (i := 43) rfl))))))) ?_
  refine zp_load (pc := 14) hx hb (zd_X0_begin (14, .aload_n 0, 1, 0, []) (List.mem_of_getElem? (i := 8) rfl)) rfl (j := 0) rfl ?_
  refine zp_getf (n := (A 1 : Int)) (pc := 15) hx hb hEξ hwξ (zd_X0_begin (15, .getfield 25, 3, 0, []) (List.mem_of_getElem? (i := 9) rfl)) (j := 18) rfl rfl rfl (zM_P hMξ (hYbξ _ (List.mem_of_getElem? (i := 5) rfl))) ((zp_set_ne (Or.inr (by decide))).trans (zp_set_self)) ?_
  refine zp_load (pc := 18) hx hb (zd_X0_begin (18, .aload_n 0, 1, 0, []) (List.mem_of_getElem? (i := 10) rfl)) rfl (j := 0) rfl ?_
  refine zp_getf (n := (A 2 : Int)) (pc := 19) hx hb hEξ hwξ (zd_X0_begin (19, .getfield 35, 3, 0, []) (List.mem_of_getElem? (i := 11) rfl)) (j := 19) rfl rfl rfl (zM_P hMξ (hYbξ _ (List.mem_of_getElem? (i := 5) rfl))) zp_set_self ?_
  refine zp_load (pc := 22) hx hb (zd_X0_begin (22, .iload_n 3, 1, 0, []) (List.mem_of_getElem? (i := 12) rfl)) rfl (j := 3) rfl ?_
  refine zp_call (pc := 23) (how := 0) (idx := 36) (mi := 90) (S := []) hx hb hEξ hwξ heffξ hrmξ (zX_abt2 hWξ A Y F V Lwξ) rfl (j := 1) rfl rfl (by decide +kernel) (zd_X0_begin (23, .invokevirtual 36, 3, 0, []) (List.mem_of_getElem? (i := 13) rfl)) [(A 4 : Int), (A 1 : Int), (A 2 : Int), t0ξ] rfl ⟨zp_o2 (zM_P hMξ (hYbξ _ (List.mem_of_getElem? (i := 4) rfl))), zp_o2 (zM_P hMξ (hYbξ _ (List.mem_of_getElem? (i := 1) rfl))), zp_o2 (zM_P hMξ (hYbξ _ (List.mem_of_getElem? (i := 2) rfl))), zp_o0 (by omega) (by omega) (by omega) (by omega), trivial⟩ (Nat.le_of_ble_eq_true rfl) ⟨⟨(zp_set (zp_set M 5 1 (A 1 : Int)) 5 2 (A 2 : Int)), (zM_set (zM_set hMξ (hYbξ _ (List.mem_of_getElem? (i := 5) rfl)) (zFx hFxξ (o := 5) (k := 1) (by decide) (by decide))) (hYbξ _ (List.mem_of_getElem? (i := 5) rfl)) (zFx hFxξ (o := 5) (k := 2) (by decide) (by decide))), (zV_scr (zV_scr hVξ (by decide)) (by decide)), trivial⟩, rfl, hYF0ξ, rfl, rfl, hlwξ⟩ (fun al halξ rnab Pab Gab hextabξ hfrabξ hokabξ hcsabξ hpsiabξ => ?_)
  obtain rfl := List.mem_singleton.mp halξ
  obtain ⟨hPeabξ, Mab, hMabξ, hVabξ, hAbabξ⟩ := hpsiabξ
  have hMqξ : zM A Y F (zp_set (zp_set M 5 1 (A 1 : Int)) 5 2 (A 2 : Int)) u.1 (zp_set (zp_set (zp_n u.2.1) (A 5) 1 (A 1 : Int)) (A 5) 2 (A 2 : Int)) := (zM_set (zM_set hMξ (hYbξ _ (List.mem_of_getElem? (i := 5) rfl)) (zFx hFxξ (o := 5) (k := 1) (by decide) (by decide))) (hYbξ _ (List.mem_of_getElem? (i := 5) rfl)) (zFx hFxξ (o := 5) (k := 2) (by decide) (by decide)))
  have h5abξ : ∀ k, Mab 5 k = (zp_set (zp_set M 5 1 (A 1 : Int)) 5 2 (A 2 : Int)) 5 k := fun k => by
    have h9ξ := zp_nf5 hfrabξ (zM_P hMqξ (hYbξ _ (List.mem_of_getElem? (i := 5) rfl))) hMabξ (hYbξ _ (List.mem_of_getElem? (i := 5) rfl)) k
    exact (Eq.trans h9ξ) (zM_G hMqξ (hYbξ _ (List.mem_of_getElem? (i := 5) rfl)) k)
  subst hPeabξ
  clear hextabξ hfrabξ hokabξ hcsabξ
  refine zp_load (pc := 26) hx hb (zd_X0_begin (26, .iload_n 3, 1, 0, []) (List.mem_of_getElem? (i := 14) rfl)) rfl (j := 3) rfl ?_
  refine zp_const (pc := 27) hx hb (zd_X0_begin (27, .bipush 100, 2, 0, []) (List.mem_of_getElem? (i := 15) rfl)) rfl rfl ?_
  refine zp_mul (n := (t0ξ * 100)) (pc := 29) hx hb (zd_X0_begin (29, .imul, 1, 0, []) (List.mem_of_getElem? (i := 16) rfl)) (by omega) (zp_r0 (by omega) (by omega)) ?_
  refine zp_store (L' := [(4, 0, (t0ξ * 100)), (0, 2, (A 5 : Int)), (1, 2, (A 1 : Int)), (2, 2, (A 2 : Int)), (3, 0, t0ξ)]) (pc := 30) hx hb hnLξ (zd_X0_begin (30, .istore 4, 2, 0, []) (List.mem_of_getElem? (i := 17) rfl)) rfl rfl rfl ?_
  refine zp_const (pc := 32) hx hb (zd_X0_begin (32, .iconst 0, 1, 0, []) (List.mem_of_getElem? (i := 18) rfl)) rfl rfl ?_
  refine zp_store (L' := [(5, 0, 0), (4, 0, (t0ξ * 100)), (0, 2, (A 5 : Int)), (1, 2, (A 1 : Int)), (2, 2, (A 2 : Int)), (3, 0, t0ξ)]) (pc := 33) hx hb hnLξ (zd_X0_begin (33, .istore 5, 2, 0, []) (List.mem_of_getElem? (i := 19) rfl)) rfl rfl rfl ?_
  have hd51ξ : Mab 5 1 = (A 1 : Int) := (Eq.trans (h5abξ 1) ((zp_set_ne (Or.inr (by decide))).trans (zp_set_self)))
  have hd52ξ : Mab 5 2 = (A 2 : Int) := (Eq.trans (h5abξ 2) zp_set_self)
  have loop : ∀ (r9ξ h9ξ : Nat) (M : Nat → Nat → Int) (G : Nat → Nat → Int), r9ξ + h9ξ = 24 → zM A Y F M u.1 G → (∀ o k, zNc o → M o k = V o k) → zAb A Y F V Lwξ (zRc V 2 50) t0ξ M → M 5 1 = (A 1 : Int) → M 5 2 = (A 2 : Int) → (∀ h, h < h9ξ → M 68 (2000 + h) = zd_pw (zd_ru (zRc V 2 50) Lwξ t0ξ) t0ξ h) → zp_J p l e R s m args below meth c Q w u [] 35 [(5, 0, (h9ξ : Int)), (4, 0, (zd_pw (zd_ru (zRc V 2 50) Lwξ t0ξ) t0ξ h9ξ)), (0, 2, (A 5 : Int)), (1, 2, (A 1 : Int)), (2, 2, (A 2 : Int)), (3, 0, t0ξ)] [] u.1 G := by
    intro r9ξ
    induction r9ξ with
    | zero =>
      intro h9ξ M G hrξ hMξ hVξ hAbξ h51ξ h52ξ hpwξ
      refine zp_load (pc := 35) hx hb (zd_X0_begin (35, .iload 5, 2, 0, []) (List.mem_of_getElem? (i := 20) rfl)) rfl (j := 0) rfl ?_
      refine zp_const (pc := 37) hx hb (zd_X0_begin (37, .bipush 24, 2, 0, []) (List.mem_of_getElem? (i := 21) rfl)) rfl rfl ?_
      refine zp_icmp (pc := 39) (tgt := 82) hx hb (zd_X0_begin (39, .if_icmp .ge 43, 3, 0, []) (List.mem_of_getElem? (i := 22) rfl)) rfl (fun (hc480ξ : 24 ≤ (h9ξ : Int)) => ?_) (fun (hc480ξ : ¬ (24 ≤ (h9ξ : Int))) => ?_)
      · refine zp_load (pc := 82) hx hb (zd_X0_begin (82, .aload_n 0, 1, 0, []) (List.mem_of_getElem? (i := 42) rfl)) rfl (j := 2) rfl ?_
        refine zp_getf (n := (A 2 : Int)) (pc := 83) hx hb hEξ hwξ (zd_X0_begin (83, .getfield 35, 3, 0, []) (List.mem_of_getElem? (i := 43) rfl)) (j := 19) rfl rfl rfl (zM_P hMξ (hYbξ _ (List.mem_of_getElem? (i := 5) rfl))) ((zM_G hMξ (hYbξ _ (List.mem_of_getElem? (i := 5) rfl)) 2).trans h52ξ) ?_
        refine zp_getf (n := (A 52 : Int)) (pc := 86) hx hb hEξ hwξ (zd_X0_begin (86, .getfield 51, 3, 0, []) (List.mem_of_getElem? (i := 44) rfl)) (j := 2) rfl rfl rfl (zM_P hMξ (hYbξ _ (List.mem_of_getElem? (i := 2) rfl))) ((zM_G hMξ (hYbξ _ (List.mem_of_getElem? (i := 2) rfl)) 2).trans (zM_F hMξ (hFbξ _ (List.mem_of_getElem? (i := 27) rfl)))) ?_
        refine zp_const (pc := 89) hx hb (zd_X0_begin (89, .iconst 0, 1, 0, []) (List.mem_of_getElem? (i := 45) rfl)) rfl rfl ?_
        refine zp_load (pc := 90) hx hb (zd_X0_begin (90, .aload_n 0, 1, 0, []) (List.mem_of_getElem? (i := 46) rfl)) rfl (j := 2) rfl ?_
        refine zp_getf (n := (A 69 : Int)) (pc := 91) hx hb hEξ hwξ (zd_X0_begin (91, .getfield 15, 3, 0, []) (List.mem_of_getElem? (i := 47) rfl)) (j := 21) rfl rfl rfl (zM_P hMξ (hYbξ _ (List.mem_of_getElem? (i := 5) rfl))) ((zM_G hMξ (hYbξ _ (List.mem_of_getElem? (i := 5) rfl)) 4).trans (zM_F hMξ (hFbξ _ (List.mem_of_getElem? (i := 45) rfl)))) ?_
        refine zp_const (pc := 94) hx hb (zd_X0_begin (94, .iconst 0, 1, 0, []) (List.mem_of_getElem? (i := 48) rfl)) rfl rfl ?_
        refine zp_const (pc := 95) hx hb (zd_X0_begin (95, .bipush 10, 2, 0, []) (List.mem_of_getElem? (i := 49) rfl)) rfl rfl ?_
        refine zp_copyO (n := 10) (i0 := 0) (i1 := 0) (pc := 97) (idx := 54) (T0 := zt_types.getD 19 (0, 0, 0, [])) (T := zt_types.getD 15 (0, 0, 0, [])) hx hb hEξ hwξ heffξ hrmξ (zd_X0_begin (97, .invokestatic 54, 3, 0, []) (List.mem_of_getElem? (i := 50) rfl)) (j := 24) rfl rfl rfl rfl rfl (zM_P hMξ (hYbξ _ (List.mem_of_getElem? (i := 30) rfl))) (zM_P hMξ (hYbξ _ (List.mem_of_getElem? (i := 47) rfl))) rfl (by omega) (by omega) (show 0 + 10 ≤ 10 by omega) (show 0 + 10 ≤ 10 by omega) (by omega) (fun j hjξ v h => h) ⟨by decide, by decide⟩ (by decide) (Or.inr ⟨by decide, by decide⟩) rfl ?_
        have hMy481ξ : zM A Y F (zc_cp M 52 0 69 0 10) u.1 (zp_cpo G (A 52) 0 (A 69) 0 10) := zM_cp hMξ (hYbξ _ (List.mem_of_getElem? (i := 30) rfl)) (hYbξ _ (List.mem_of_getElem? (i := 47) rfl))
        have hVy481ξ : ∀ o k, zNc o → (zc_cp M 52 0 69 0 10) o k = V o k := zV_cps (o0 := 52) (i0 := 0) (i1 := 0) (n := 10) (M := M) hVξ (o1 := 69) (fun k => by decide)
        obtain ⟨Gy481, hGy481ξ⟩ : ∃ G9ξ, G9ξ = zp_cpo G (A 52) 0 (A 69) 0 10 := ⟨_, rfl⟩
        rw [← hGy481ξ] at hMy481ξ ⊢
        refine zp_load (pc := 100) hx hb (zd_X0_begin (100, .aload_n 0, 1, 0, []) (List.mem_of_getElem? (i := 51) rfl)) rfl (j := 2) rfl ?_
        refine zp_getf (n := (A 70 : Int)) (pc := 101) hx hb hEξ hwξ (zd_X0_begin (101, .getfield 18, 3, 0, []) (List.mem_of_getElem? (i := 52) rfl)) (j := 22) rfl rfl rfl (zM_P hMy481ξ (hYbξ _ (List.mem_of_getElem? (i := 5) rfl))) ((zM_G hMy481ξ (hYbξ _ (List.mem_of_getElem? (i := 5) rfl)) 5).trans (zM_F hMy481ξ (hFbξ _ (List.mem_of_getElem? (i := 46) rfl)))) ?_
        refine zp_const (pc := 104) hx hb (zd_X0_begin (104, .iconst (-1), 1, 0, []) (List.mem_of_getElem? (i := 53) rfl)) rfl rfl ?_
        refine zp_call (pc := 105) (how := 1) (idx := 60) (mi := 107) (S := []) hx hb hEξ hwξ heffξ hrmξ (zX_fil70 hWξ A Y F (zc_cp M 52 0 69 0 10)) rfl (j := 3) rfl rfl (by decide +kernel) (zd_X0_begin (105, .invokestatic 60, 3, 0, []) (List.mem_of_getElem? (i := 54) rfl)) [(A 70 : Int), (-1)] rfl ⟨zp_o2 (zM_P hMy481ξ (hYbξ _ (List.mem_of_getElem? (i := 48) rfl))), zp_o0 (by omega) (by omega) (by omega) (by omega), trivial⟩ (Nat.le_of_ble_eq_true rfl) ⟨hMy481ξ, rfl, hYF0ξ⟩ (fun al halξ rnfl Pfl Gfl hextflξ hfrflξ hokflξ hcsflξ hpsiflξ => ?_)
        obtain rfl := List.mem_singleton.mp halξ
        obtain ⟨hPeflξ, Mfl, hMflξ, hkflξ, hjflξ⟩ := hpsiflξ
        subst hPeflξ
        clear hextflξ hfrflξ hokflξ hcsflξ
        have hcpξ : ∀ o k, o ≠ 69 → o ≠ 70 → Mfl o k = M o k := fun o k e1 e2 => (hkflξ o k e2).trans (zc_cp_o e1)
        have hVflξ : ∀ o k, zNc o → Mfl o k = V o k := fun o k hkξ => (hcpξ o k (fun e => hkξ (by rw [e]; decide)) (fun e => hkξ (by rw [e]; decide))).trans (hVξ o k hkξ)
        refine zp_vret (pc := 108) hx hb hEξ hQξ hU5ξ rfl (by decide) (zd_X0_begin (108, .return_, 1, 0, []) (List.mem_of_getElem? (i := 55) rfl)) (j := 0) rfl ?_
        rw [hpsξ]
        refine ⟨rfl, ?_⟩
        refine ⟨Mfl, hMflξ, hVflξ, zAb_f hAbξ (fun o k h9ξ => hcpξ o k (by rcases h9ξ with rfl | ⟨rfl, -⟩ <;> decide) (by rcases h9ξ with rfl | ⟨rfl, -⟩ <;> decide)) (fun o k h9ξ => rfl) ⟨rfl, rfl, rfl⟩, ⟨(hcpξ 5 1 (by decide) (by decide)).trans h51ξ, (hcpξ 5 2 (by decide) (by decide)).trans h52ξ⟩, fun h hhξ => (hcpξ 68 _ (by decide) (by decide)).trans (hpwξ h (by omega)), fun w hwξ => ⟨?_, hjflξ w hwξ⟩⟩
        refine (hkflξ 69 _ (by decide)).trans ((zc_cp_e (by omega) (by omega)).trans ?_)
        refine (hVξ 52 _ (by decide)).trans ?_
        show V 52 (2000 + (0 + (w - 0))) = zRc V 2 50 (w + 29)
        rw [zRc_d hwξ, show 0 + (w - 0) = w by omega]
      · exfalso
        omega
    | succ r9ξ ih =>
      intro h9ξ M G hrξ hMξ hVξ hAbξ h51ξ h52ξ hpwξ
      have hpwbξ := zd_pwb (R := (zRc V 2 50)) (L := Lwξ) ht0ξ ht12ξ (h := h9ξ)
      have hrubξ := zd_rub (R := (zRc V 2 50)) (L := Lwξ) (t := t0ξ) (pw := (zd_pw (zd_ru (zRc V 2 50) Lwξ t0ξ) t0ξ h9ξ)) (h := h9ξ)
      have hpw1ξ : (zd_pw (zd_ru (zRc V 2 50) Lwξ t0ξ) t0ξ (h9ξ + 1)) = max 0 (min 100000000 ((zd_pw (zd_ru (zRc V 2 50) Lwξ t0ξ) t0ξ h9ξ) - (zd_ru (zRc V 2 50) Lwξ t0ξ (zd_pw (zd_ru (zRc V 2 50) Lwξ t0ξ) t0ξ h9ξ) h9ξ))) := rfl
      refine zp_load (pc := 35) hx hb (zd_X0_begin (35, .iload 5, 2, 0, []) (List.mem_of_getElem? (i := 20) rfl)) rfl (j := 0) rfl ?_
      refine zp_const (pc := 37) hx hb (zd_X0_begin (37, .bipush 24, 2, 0, []) (List.mem_of_getElem? (i := 21) rfl)) rfl rfl ?_
      refine zp_icmp (pc := 39) (tgt := 82) hx hb (zd_X0_begin (39, .if_icmp .ge 43, 3, 0, []) (List.mem_of_getElem? (i := 22) rfl)) rfl (fun (hc482ξ : 24 ≤ (h9ξ : Int)) => ?_) (fun (hc482ξ : ¬ (24 ≤ (h9ξ : Int))) => ?_)
      · exfalso
        omega
      · refine zp_load (pc := 42) hx hb (zd_X0_begin (42, .aload_n 0, 1, 0, []) (List.mem_of_getElem? (i := 23) rfl)) rfl (j := 2) rfl ?_
        refine zp_getf (n := (A 68 : Int)) (pc := 43) hx hb hEξ hwξ (zd_X0_begin (43, .getfield 9, 3, 0, []) (List.mem_of_getElem? (i := 24) rfl)) (j := 20) rfl rfl rfl (zM_P hMξ (hYbξ _ (List.mem_of_getElem? (i := 5) rfl))) ((zM_G hMξ (hYbξ _ (List.mem_of_getElem? (i := 5) rfl)) 3).trans (zM_F hMξ (hFbξ _ (List.mem_of_getElem? (i := 44) rfl)))) ?_
        refine zp_load (pc := 46) hx hb (zd_X0_begin (46, .iload 5, 2, 0, []) (List.mem_of_getElem? (i := 25) rfl)) rfl (j := 0) rfl ?_
        refine zp_load (pc := 48) hx hb (zd_X0_begin (48, .iload 4, 2, 0, []) (List.mem_of_getElem? (i := 26) rfl)) rfl (j := 1) rfl ?_
        refine zp_iast (j := h9ξ) (pc := 50) hx hb hwξ heffξ (zd_X0_begin (50, .iastore, 1, 0, []) (List.mem_of_getElem? (i := 27) rfl)) (show zp_ia 1 14 = some (24, 0, 0, (-2147483648), 2147483647) from rfl) (zM_P hMξ (hYbξ _ (List.mem_of_getElem? (i := 46) rfl))) (by omega) (by omega) (zp_o0 (by omega) (by omega) (by omega) (by omega)) rfl ?_
        refine zp_load (pc := 51) hx hb (zd_X0_begin (51, .iload 4, 2, 0, []) (List.mem_of_getElem? (i := 28) rfl)) rfl (j := 1) rfl ?_
        refine zp_if (pc := 53) (tgt := 76) hx hb (zd_X0_begin (53, .ifCond .le 23, 3, 0, []) (List.mem_of_getElem? (i := 29) rfl)) rfl (fun (hc483ξ : (zd_pw (zd_ru (zRc V 2 50) Lwξ t0ξ) t0ξ h9ξ) ≤ 0) => ?_) (fun (hc483ξ : ¬ ((zd_pw (zd_ru (zRc V 2 50) Lwξ t0ξ) t0ξ h9ξ) ≤ 0)) => ?_)
        · refine zp_iinc (L' := [(5, 0, ((h9ξ : Int) + 1)), (4, 0, (zd_pw (zd_ru (zRc V 2 50) Lwξ t0ξ) t0ξ h9ξ)), (0, 2, (A 5 : Int)), (1, 2, (A 1 : Int)), (2, 2, (A 2 : Int)), (3, 0, t0ξ)]) (n := ((h9ξ : Int) + 1)) (pc := 76) hx hb hnLξ (zd_X0_begin (76, .iinc 5 1, 3, 0, []) (List.mem_of_getElem? (i := 40) rfl)) (j := 0) rfl (by omega) (zp_r0 (by omega) (by omega)) rfl rfl ?_
          refine zp_goto (tgt := 35) (pc := 79) hx hb (zd_X0_begin (79, .goto (-44), 3, 0, []) (List.mem_of_getElem? (i := 41) rfl)) rfl ?_
          have hl9ξ : (zd_pw (zd_ru (zRc V 2 50) Lwξ t0ξ) t0ξ h9ξ) = (zd_pw (zd_ru (zRc V 2 50) Lwξ t0ξ) t0ξ (h9ξ + 1)) := by rw [hpw1ξ]; omega
          generalize hGq9ξ : (zp_set G (A 68) (2000 + h9ξ) (zd_pw (zd_ru (zRc V 2 50) Lwξ t0ξ) t0ξ h9ξ)) = Gq9
          rw [hl9ξ]
          subst hGq9ξ
          refine zp_drop (L' := [(5, 0, ((h9ξ : Int) + 1)), (4, 0, (zd_pw (zd_ru (zRc V 2 50) Lwξ t0ξ) t0ξ (h9ξ + 1))), (0, 2, (A 5 : Int)), (1, 2, (A 1 : Int)), (2, 2, (A 2 : Int)), (3, 0, t0ξ)]) (by simp) ?_
          refine ih (h9ξ + 1) (zp_set M 68 (2000 + h9ξ) (zd_pw (zd_ru (zRc V 2 50) Lwξ t0ξ) t0ξ h9ξ)) (zp_set G (A 68) (2000 + h9ξ) (zd_pw (zd_ru (zRc V 2 50) Lwξ t0ξ) t0ξ h9ξ)) (by omega) (zM_setE hMξ (hYbξ _ (List.mem_of_getElem? (i := 46) rfl))) (zV_scr hVξ (by decide)) (zAb_f (V' := V) (R' := (zRc V 2 50)) (M' := (zp_set M 68 (2000 + h9ξ) (zd_pw (zd_ru (zRc V 2 50) Lwξ t0ξ) t0ξ h9ξ))) hAbξ (fun o k h9ξ => (zp_set_ne (Or.inl (by rcases h9ξ with rfl | ⟨rfl, -⟩ <;> decide))).trans (rfl)) (fun o k h9ξ => rfl) ⟨rfl, rfl, rfl⟩) (((zp_set_ne (Or.inl (by decide))).trans (h51ξ))) (((zp_set_ne (Or.inl (by decide))).trans (h52ξ))) (fun h hhξ => ?_)
          by_cases e9ξ : h = h9ξ
          · rw [e9ξ]
            exact zp_set_self
          · exact (zp_set_ne (Or.inr (by omega))).trans (hpwξ h (by omega))
        · refine zp_const (pc := 56) hx hb (zd_X0_begin (56, .iconst 0, 1, 0, []) (List.mem_of_getElem? (i := 30) rfl)) rfl rfl ?_
          refine zp_load (pc := 57) hx hb (zd_X0_begin (57, .iload 4, 2, 0, []) (List.mem_of_getElem? (i := 31) rfl)) rfl (j := 1) rfl ?_
          refine zp_load (pc := 59) hx hb (zd_X0_begin (59, .aload_n 0, 1, 0, []) (List.mem_of_getElem? (i := 32) rfl)) rfl (j := 2) rfl ?_
          refine zp_getf (n := (A 4 : Int)) (pc := 60) hx hb hEξ hwξ (zd_X0_begin (60, .getfield 21, 3, 0, []) (List.mem_of_getElem? (i := 33) rfl)) (j := 17) rfl rfl rfl (zM_P hMξ (hYbξ _ (List.mem_of_getElem? (i := 5) rfl))) ((zp_set_ne (Or.inl (zM_ne hMξ (hYbξ _ (List.mem_of_getElem? (i := 5) rfl)) (hYbξ _ (List.mem_of_getElem? (i := 46) rfl)) (by decide)))).trans (((zM_G hMξ (hYbξ _ (List.mem_of_getElem? (i := 5) rfl)) 0).trans (zM_F hMξ (hFbξ _ (List.mem_of_getElem? (i := 43) rfl)))))) ?_
          refine zp_load (pc := 63) hx hb (zd_X0_begin (63, .iload 5, 2, 0, []) (List.mem_of_getElem? (i := 34) rfl)) rfl (j := 0) rfl ?_
          refine zp_load (pc := 65) hx hb (zd_X0_begin (65, .iload 4, 2, 0, []) (List.mem_of_getElem? (i := 35) rfl)) rfl (j := 1) rfl ?_
          have hlr484ξ := zg_lawM (zM_setE hMξ (hYbξ _ (List.mem_of_getElem? (i := 46) rfl))) hYF0ξ (zV_scr hVξ (by decide)) (zAb_f (V' := V) (R' := (zRc V 2 50)) (M' := (zp_set M 68 (2000 + h9ξ) (zd_pw (zd_ru (zRc V 2 50) Lwξ t0ξ) t0ξ h9ξ))) hAbξ (fun o k h9ξ => (zp_set_ne (Or.inl (by rcases h9ξ with rfl | ⟨rfl, -⟩ <;> decide))).trans (rfl)) (fun o k h9ξ => rfl) ⟨rfl, rfl, rfl⟩) (pw := (zd_pw (zd_ru (zRc V 2 50) Lwξ t0ξ) t0ξ h9ξ)) (hrξ := (h9ξ : Int)) (p := (-1)) (o := (-1)) (l := (-1)) (by omega) (by omega) (by omega) (by omega) (by omega) (by rfl) (by rfl)
          refine zp_call (pc := 67) (how := 0) (idx := 42) (mi := 106) (S := [(0, (zd_pw (zd_ru (zRc V 2 50) Lwξ t0ξ) t0ξ h9ξ)), (0, 0)]) hx hb hEξ hwξ heffξ hrmξ (zX_ru_ hWξ (A 66) (fun j => (zp_set M 68 (2000 + h9ξ) (zd_pw (zd_ru (zRc V 2 50) Lwξ t0ξ) t0ξ h9ξ)) 66 (2000 + j)) (zg_ew (zRc V 2 50) zd_S0 t0ξ (zd_pw (zd_ru (zRc V 2 50) Lwξ t0ξ) t0ξ h9ξ) (h9ξ : Int) (-1)) Lwξ) rfl (j := 2) rfl rfl (by decide +kernel) (zd_X0_begin (67, .invokevirtual 42, 3, 0, []) (List.mem_of_getElem? (i := 36) rfl)) [(A 4 : Int), (h9ξ : Int), (zd_pw (zd_ru (zRc V 2 50) Lwξ t0ξ) t0ξ h9ξ)] rfl ⟨zp_o2 (zM_P hMξ (hYbξ _ (List.mem_of_getElem? (i := 4) rfl))), zp_o0 (by omega) (by omega) (by omega) (by omega), zp_o0 (by omega) (by omega) (by omega) (by omega), trivial⟩ (Nat.le_of_ble_eq_true rfl) hlr484ξ (fun al halξ rnr484ξ Pr484 Gr484 hextr484ξ hfrr484ξ hokr484ξ hcsr484ξ hpsir484ξ => ?_)
          obtain rfl := List.mem_singleton.mp halξ
          have hrr484ξ := zp_int (hokr484ξ _ rfl).1
          obtain ⟨hPer484ξ, hWnr484ξ, htr484ξ⟩ := hpsir484ξ
          obtain ⟨Mr484, hMr484ξ, hMkr484ξ, hM6r484ξ⟩ := zM_rul (zM_setE hMξ (hYbξ _ (List.mem_of_getElem? (i := 46) rfl))) hYF0ξ hfrr484ξ hextr484ξ
          subst hPer484ξ
          have hVr484ξ : ∀ o k, zNc o → Mr484 o k = V o k := fun o k hkξ => (hMkr484ξ o k (fun e => hkξ (by rw [e]; decide)) (fun e => hkξ (by rw [e]; decide))).trans ((zV_scr hVξ (by decide)) o k hkξ)
          have hAbr484ξ := zAb_n ((zAb_f (V' := V) (R' := (zRc V 2 50)) (M' := (zp_set M 68 (2000 + h9ξ) (zd_pw (zd_ru (zRc V 2 50) Lwξ t0ξ) t0ξ h9ξ))) hAbξ (fun o k h9ξ => (zp_set_ne (Or.inl (by rcases h9ξ with rfl | ⟨rfl, -⟩ <;> decide))).trans (rfl)) (fun o k h9ξ => rfl) ⟨rfl, rfl, rfl⟩)) (fun j => (hM6r484ξ (2000 + j)).trans (hWnr484ξ j)) hlr484ξ.1.2.2.2.2.1 (hMkr484ξ 4 2 (by decide) (by decide))
          clear hextr484ξ hfrr484ξ hokr484ξ hcsr484ξ hlr484ξ
          have htr484ξ : rnr484ξ = (zy_ru (zg_ew (zRc V 2 50) zd_S0 t0ξ (zd_pw (zd_ru (zRc V 2 50) Lwξ t0ξ) t0ξ h9ξ) (h9ξ : Int) (-1)) Lwξ) := htr484ξ
          have htr484ξ : rnr484ξ = (zd_ru (zRc V 2 50) Lwξ t0ξ (zd_pw (zd_ru (zRc V 2 50) Lwξ t0ξ) t0ξ h9ξ) h9ξ) := htr484ξ
          have htr484ξ := (Eq.symm htr484ξ)
          subst htr484ξ
          refine zp_sub (n := ((zd_pw (zd_ru (zRc V 2 50) Lwξ t0ξ) t0ξ h9ξ) - (zd_ru (zRc V 2 50) Lwξ t0ξ (zd_pw (zd_ru (zRc V 2 50) Lwξ t0ξ) t0ξ h9ξ) h9ξ))) (pc := 70) hx hb (zd_X0_begin (70, .isub, 1, 0, []) (List.mem_of_getElem? (i := 37) rfl)) (by omega) (zp_r0 (by omega) (by omega)) ?_
          refine zp_mm (n := (max 0 ((zd_pw (zd_ru (zRc V 2 50) Lwξ t0ξ) t0ξ h9ξ) - (zd_ru (zRc V 2 50) Lwξ t0ξ (zd_pw (zd_ru (zRc V 2 50) Lwξ t0ξ) t0ξ h9ξ) h9ξ)))) (S := []) (pc := 71) hx hb hEξ hrmξ (zd_X0_begin (71, .invokestatic 46, 3, 0, []) (List.mem_of_getElem? (i := 38) rfl)) (j := 23) rfl (Or.inl ⟨rfl, by omega⟩) ⟨by decide, Nat.le_of_ble_eq_true rfl⟩ ?_
          refine zp_store (L' := [(4, 0, (max 0 ((zd_pw (zd_ru (zRc V 2 50) Lwξ t0ξ) t0ξ h9ξ) - (zd_ru (zRc V 2 50) Lwξ t0ξ (zd_pw (zd_ru (zRc V 2 50) Lwξ t0ξ) t0ξ h9ξ) h9ξ)))), (5, 0, (h9ξ : Int)), (0, 2, (A 5 : Int)), (1, 2, (A 1 : Int)), (2, 2, (A 2 : Int)), (3, 0, t0ξ)]) (pc := 74) hx hb hnLξ (zd_X0_begin (74, .istore 4, 2, 0, []) (List.mem_of_getElem? (i := 39) rfl)) rfl rfl rfl ?_
          refine zp_iinc (L' := [(5, 0, ((h9ξ : Int) + 1)), (4, 0, (max 0 ((zd_pw (zd_ru (zRc V 2 50) Lwξ t0ξ) t0ξ h9ξ) - (zd_ru (zRc V 2 50) Lwξ t0ξ (zd_pw (zd_ru (zRc V 2 50) Lwξ t0ξ) t0ξ h9ξ) h9ξ)))), (0, 2, (A 5 : Int)), (1, 2, (A 1 : Int)), (2, 2, (A 2 : Int)), (3, 0, t0ξ)]) (n := ((h9ξ : Int) + 1)) (pc := 76) hx hb hnLξ (zd_X0_begin (76, .iinc 5 1, 3, 0, []) (List.mem_of_getElem? (i := 40) rfl)) (j := 1) rfl (by omega) (zp_r0 (by omega) (by omega)) rfl rfl ?_
          refine zp_goto (tgt := 35) (pc := 79) hx hb (zd_X0_begin (79, .goto (-44), 3, 0, []) (List.mem_of_getElem? (i := 41) rfl)) rfl ?_
          have hl9ξ : (max 0 ((zd_pw (zd_ru (zRc V 2 50) Lwξ t0ξ) t0ξ h9ξ) - (zd_ru (zRc V 2 50) Lwξ t0ξ (zd_pw (zd_ru (zRc V 2 50) Lwξ t0ξ) t0ξ h9ξ) h9ξ))) = (zd_pw (zd_ru (zRc V 2 50) Lwξ t0ξ) t0ξ (h9ξ + 1)) := by rw [hpw1ξ]; omega
          generalize hGq9ξ : Gr484 = Gq9
          rw [hl9ξ]
          subst hGq9ξ
          refine zp_drop (L' := [(5, 0, ((h9ξ : Int) + 1)), (4, 0, (zd_pw (zd_ru (zRc V 2 50) Lwξ t0ξ) t0ξ (h9ξ + 1))), (0, 2, (A 5 : Int)), (1, 2, (A 1 : Int)), (2, 2, (A 2 : Int)), (3, 0, t0ξ)]) (by simp) ?_
          refine ih (h9ξ + 1) Mr484 Gr484 (by omega) hMr484ξ hVr484ξ hAbr484ξ ((Eq.trans (hMkr484ξ 5 1 (by decide) (by decide)) ((zp_set_ne (Or.inl (by decide))).trans (h51ξ)))) ((Eq.trans (hMkr484ξ 5 2 (by decide) (by decide)) ((zp_set_ne (Or.inl (by decide))).trans (h52ξ)))) (fun h hhξ => ?_)
          by_cases e9ξ : h = h9ξ
          · rw [e9ξ]
            exact (hMkr484ξ 68 _ (by decide) (by decide)).trans zp_set_self
          · exact (hMkr484ξ 68 _ (by decide) (by decide)).trans ((zp_set_ne (Or.inr (by omega))).trans (hpwξ h (by omega)))
  refine zp_drop (L' := [(5, 0, 0), (4, 0, (t0ξ * 100)), (0, 2, (A 5 : Int)), (1, 2, (A 1 : Int)), (2, 2, (A 2 : Int)), (3, 0, t0ξ)]) (by simp) ?_
  have h00ξ : (t0ξ * 100) = zd_pw (zd_ru (zRc V 2 50) Lwξ t0ξ) t0ξ 0 := by
    show _ = 100 * t0ξ
    omega
  rw [h00ξ]
  exact loop 24 0 Mab Gab (by omega) hMabξ hVabξ hAbabξ hd51ξ hd52ξ (fun h hhξ => absurd hhξ (Nat.not_lt_zero h))
noncomputable def zK_pas2 : zk_K := (zt_mn 131, prog_2_method_3_code, 5, (Option.none : Option Jvm.ClassFile.FieldType), 1, 0, [(2, 0, 0, 0), (2, 10, 0, 0), (2, 2, 0, 0), (0, 0, (-2147483648), 2147483647)], [(none, [])], zUC, (5, 300, 0, 0))
noncomputable def zφ_pas2 (A : Nat → Nat) (Y : List (Nat × Nat)) (F : List (Nat × Nat × Nat)) (V : Nat → Nat → Int) (n1ξ npξ : Nat) (t0ξ : Int) (Lwξ : List yK) : (Nat → Option Nat) → (Nat → Nat → Int) → List Int → Prop := fun P G ps => zMVc A Y F V P G ∧ ps.getD 0 0 = (A 5 : Int) ∧ zMc Y F ∧ (ps.getD 1 0) = (A 1 : Int) ∧ (ps.getD 2 0) = (A 2 : Int) ∧ t0ξ = (ps.getD 3 0) ∧ zLF A Y F V Lwξ ∧ zc_ok V 2 50 n1ξ npξ ∧ 0 ≤ t0ξ ∧ t0ξ ≤ 12
noncomputable def zψ_pas2 (A : Nat → Nat) (Y : List (Nat × Nat)) (F : List (Nat × Nat × Nat)) (V : Nat → Nat → Int) (n1ξ npξ : Nat) (t0ξ : Int) (Lwξ : List yK) : (Nat → Option Nat) → (Nat → Nat → Int) → List Int → (Nat → Option Nat) → (Nat → Nat → Int) → Int → Prop := fun P G ps P' G' rn => P' = P ∧ zMDs A Y F V Lwξ 2 50 t0ξ (zd_hr (zRc V 2 50) n1ξ npξ (zd_sp (zRc V 2 50) Lwξ t0ξ) (zd_ru (zRc V 2 50) Lwξ t0ξ) t0ξ 24) P' G'
theorem zX_pas2 {l : Launch} {w : zk_W} (hWξ : zh_W w) (A : Nat → Nat) (Y : List (Nat × Nat)) (F : List (Nat × Nat × Nat)) (V : Nat → Nat → Int) (n1ξ npξ : Nat) (t0ξ : Int) (Lwξ : List yK) : zk_metX l w zt_dv zt_TB zK_pas2 (zp_A (zφ_pas2 A Y F V n1ξ npξ t0ξ Lwξ)) (zp_B (zψ_pas2 A Y F V n1ξ npξ t0ξ Lwξ)) ∧ zk_cok w zt_TB zK_pas2 := by
  refine zp_methX (cn := "WoundTown$Day") zp_lkallDy hWξ (pl := 1109) rfl (by decide +kernel) (fun p e R s m args below meth c Q u hx hb hEξ hQξ hU5ξ heffξ hnLξ hokξ hφ => ?_)
  have hwξ := hWξ.1
  obtain ⟨p0ξ, p1ξ, p2ξ, p3ξ, hpsξ, tk0, tk1, tk2, tk3⟩ := zp_ps4 hokξ
  have hrmξ : zk_Kr (zk_ev (zt_types, zp_lkDy, zt_dv, [], [], zp_lcDy, zK_pas2)) = zk_Kr zK_pas2 := rfl
  rw [hpsξ] at hφ ⊢
  have hφ : zMVc A Y F V u.1 (zp_n u.2.1) ∧ p0ξ = (A 5 : Int) ∧ zMc Y F ∧ p1ξ = (A 1 : Int) ∧ p2ξ = (A 2 : Int) ∧ t0ξ = p3ξ ∧ zLF A Y F V Lwξ ∧ zc_ok V 2 50 n1ξ npξ ∧ 0 ≤ t0ξ ∧ t0ξ ≤ 12 := hφ
  obtain ⟨⟨M, hMξ, hVξ, hSbξ⟩, rfl, hYFξ, rfl, rfl, rfl, hlwξ, hokξ, ht0ξ, ht12ξ⟩ := hφ
  have hYF0ξ := hYFξ
  obtain ⟨hYbξ, hFbξ, hFxξ, -⟩ := hYFξ
  have hi3ξ := zp_int tk3
  show zp_J p l e R s m args below meth c Q w u [] 0 [(0, 2, (A 5 : Int)), (1, 2, (A 1 : Int)), (2, 2, (A 2 : Int)), (3, 0, t0ξ)] [] u.1 (zp_n u.2.1)
  obtain ⟨hn10ξ, hnp6ξ, hn1ξ, hnpξ, hDwξ, hDpξ⟩ := hokξ.1
  have hn1ξ : V 1 3 = (n1ξ : Int) := hn1ξ
  have hnpξ : V 1 1 = (npξ : Int) := hnpξ
  refine zp_load (pc := 0) hx hb (zd_X0_pass (0, .aload_n 0, 1, 0, []) (List.mem_of_getElem? (i := 0) rfl)) rfl (j := 0) rfl ?_
  refine zp_load (pc := 1) hx hb (zd_X0_pass (1, .aload_n 1, 1, 0, []) (List.mem_of_getElem? (i := 1) rfl)) rfl (j := 1) rfl ?_
  refine zp_load (pc := 2) hx hb (zd_X0_pass (2, .aload_n 2, 1, 0, []) (List.mem_of_getElem? (i := 2) rfl)) rfl (j := 2) rfl ?_
  refine zp_load (pc := 3) hx hb (zd_X0_pass (3, .iload_n 3, 1, 0, []) (List.mem_of_getElem? (i := 3) rfl)) rfl (j := 3) rfl ?_
  refine zp_call (pc := 4) (how := 0) (idx := 66) (mi := 105) (S := []) hx hb hEξ hwξ heffξ hrmξ (zX_beg2 hWξ A Y F V n1ξ npξ t0ξ Lwξ) rfl (j := 0) rfl rfl (by decide +kernel) (zd_X0_pass (4, .invokevirtual 66, 3, 0, []) (List.mem_of_getElem? (i := 4) rfl)) [(A 5 : Int), (A 1 : Int), (A 2 : Int), t0ξ] rfl ⟨zp_o2 (zM_P hMξ (hYbξ _ (List.mem_of_getElem? (i := 5) rfl))), zp_o2 (zM_P hMξ (hYbξ _ (List.mem_of_getElem? (i := 1) rfl))), zp_o2 (zM_P hMξ (hYbξ _ (List.mem_of_getElem? (i := 2) rfl))), zp_o0 (by omega) (by omega) (by omega) (by omega), trivial⟩ (Nat.le_of_ble_eq_true rfl) ⟨⟨M, hMξ, hVξ, trivial⟩, rfl, hYF0ξ, rfl, rfl, rfl, hlwξ, hokξ, ht0ξ, ht12ξ⟩ (fun al halξ rnbg Pbg Gbg hextbgξ hfrbgξ hokbgξ hcsbgξ hpsibgξ => ?_)
  obtain rfl := List.mem_singleton.mp halξ
  obtain ⟨hPebgξ, Mbg, hMbgξ, hVbgξ, hDsbgξ⟩ := hpsibgξ
  subst hPebgξ
  clear hextbgξ hfrbgξ hokbgξ hcsbgξ
  refine zp_const (pc := 7) hx hb (zd_X0_pass (7, .iconst 0, 1, 0, []) (List.mem_of_getElem? (i := 5) rfl)) rfl rfl ?_
  refine zp_store (L' := [(4, 0, 0), (0, 2, (A 5 : Int)), (1, 2, (A 1 : Int)), (2, 2, (A 2 : Int)), (3, 0, t0ξ)]) (pc := 8) hx hb hnLξ (zd_X0_pass (8, .istore 4, 2, 0, []) (List.mem_of_getElem? (i := 6) rfl)) rfl rfl rfl ?_
  have loop : ∀ (r9ξ h9ξ : Nat) (M : Nat → Nat → Int) (G : Nat → Nat → Int), r9ξ + h9ξ = 24 → zM A Y F M u.1 G → (∀ o k, zNc o → M o k = V o k) → zDst A Y F V Lwξ 2 50 t0ξ (zd_hr (zRc V 2 50) n1ξ npξ (zd_sp (zRc V 2 50) Lwξ t0ξ) (zd_ru (zRc V 2 50) Lwξ t0ξ) t0ξ h9ξ) M → zp_J p l e R s m args below meth c Q w u [] 10 [(4, 0, (h9ξ : Int)), (0, 2, (A 5 : Int)), (1, 2, (A 1 : Int)), (2, 2, (A 2 : Int)), (3, 0, t0ξ)] [] u.1 G := by
    intro r9ξ
    induction r9ξ with
    | zero =>
      intro h9ξ M G hrξ hMξ hVξ hDsξ
      refine zp_load (pc := 10) hx hb (zd_X0_pass (10, .iload 4, 2, 0, []) (List.mem_of_getElem? (i := 7) rfl)) rfl (j := 0) rfl ?_
      refine zp_const (pc := 12) hx hb (zd_X0_pass (12, .bipush 24, 2, 0, []) (List.mem_of_getElem? (i := 8) rfl)) rfl rfl ?_
      refine zp_icmp (pc := 14) (tgt := 29) hx hb (zd_X0_pass (14, .if_icmp .ge 15, 3, 0, []) (List.mem_of_getElem? (i := 9) rfl)) rfl (fun (hc485ξ : 24 ≤ (h9ξ : Int)) => ?_) (fun (hc485ξ : ¬ (24 ≤ (h9ξ : Int))) => ?_)
      · obtain rfl : h9ξ = 24 := by omega
        refine zp_vret (pc := 29) hx hb hEξ hQξ hU5ξ rfl (by decide) (zd_X0_pass (29, .return_, 1, 0, []) (List.mem_of_getElem? (i := 15) rfl)) (j := 0) rfl ?_
        rw [hpsξ]
        refine ⟨rfl, ?_⟩
        exact ⟨M, hMξ, hVξ, hDsξ⟩
      · exfalso
        omega
    | succ r9ξ ih =>
      intro h9ξ M G hrξ hMξ hVξ hDsξ
      refine zp_load (pc := 10) hx hb (zd_X0_pass (10, .iload 4, 2, 0, []) (List.mem_of_getElem? (i := 7) rfl)) rfl (j := 0) rfl ?_
      refine zp_const (pc := 12) hx hb (zd_X0_pass (12, .bipush 24, 2, 0, []) (List.mem_of_getElem? (i := 8) rfl)) rfl rfl ?_
      refine zp_icmp (pc := 14) (tgt := 29) hx hb (zd_X0_pass (14, .if_icmp .ge 15, 3, 0, []) (List.mem_of_getElem? (i := 9) rfl)) rfl (fun (hc486ξ : 24 ≤ (h9ξ : Int)) => ?_) (fun (hc486ξ : ¬ (24 ≤ (h9ξ : Int))) => ?_)
      · exfalso
        omega
      · refine zp_load (pc := 17) hx hb (zd_X0_pass (17, .aload_n 0, 1, 0, []) (List.mem_of_getElem? (i := 10) rfl)) rfl (j := 1) rfl ?_
        refine zp_load (pc := 18) hx hb (zd_X0_pass (18, .iload 4, 2, 0, []) (List.mem_of_getElem? (i := 11) rfl)) rfl (j := 0) rfl ?_
        refine zp_call (pc := 20) (how := 0) (idx := 69) (mi := 108) (S := []) hx hb hEξ hwξ heffξ hrmξ (zX_psh2 hWξ A Y F M V n1ξ npξ t0ξ Lwξ h9ξ) rfl (j := 4) rfl rfl (by decide +kernel) (zd_X0_pass (20, .invokevirtual 69, 3, 0, []) (List.mem_of_getElem? (i := 12) rfl)) [(A 5 : Int), (h9ξ : Int)] rfl ⟨zp_o2 (zM_P hMξ (hYbξ _ (List.mem_of_getElem? (i := 5) rfl))), zp_o0 (by omega) (by omega) (by omega) (by omega), trivial⟩ (Nat.le_of_ble_eq_true rfl) ⟨hMξ, rfl, hYF0ξ, hVξ, hDsξ, rfl, by omega, hokξ, ht0ξ, ht12ξ⟩ (fun al halξ rnps Pps Gps hextpsξ hfrpsξ hokpsξ hcspsξ hpsipsξ => ?_)
        obtain rfl := List.mem_singleton.mp halξ
        obtain ⟨hPepsξ, Mps, hMpsξ, hVpsξ, hDspsξ⟩ := hpsipsξ
        subst hPepsξ
        clear hextpsξ hfrpsξ hokpsξ hcspsξ
        refine zp_iinc (L' := [(4, 0, ((h9ξ : Int) + 1)), (0, 2, (A 5 : Int)), (1, 2, (A 1 : Int)), (2, 2, (A 2 : Int)), (3, 0, t0ξ)]) (n := ((h9ξ : Int) + 1)) (pc := 23) hx hb hnLξ (zd_X0_pass (23, .iinc 4 1, 3, 0, []) (List.mem_of_getElem? (i := 13) rfl)) (j := 0) rfl (by omega) (zp_r0 (by omega) (by omega)) rfl rfl ?_
        refine zp_goto (tgt := 10) (pc := 26) hx hb (zd_X0_pass (26, .goto (-16), 3, 0, []) (List.mem_of_getElem? (i := 14) rfl)) rfl ?_
        refine zp_drop (L' := [(4, 0, ((h9ξ : Int) + 1)), (0, 2, (A 5 : Int)), (1, 2, (A 1 : Int)), (2, 2, (A 2 : Int)), (3, 0, t0ξ)]) (by simp) ?_
        exact ih (h9ξ + 1) Mps Gps (by omega) hMpsξ hVpsξ hDspsξ
  exact loop 24 0 Mbg Gbg (by omega) hMbgξ hVbgξ hDsbgξ
noncomputable def zK_psh7 : zk_K := (zt_mn 108, prog_2_method_5_code, 5, (Option.none : Option Jvm.ClassFile.FieldType), 1, 0, [(2, 0, 0, 0), (0, 0, (-2147483648), 2147483647)], [(none, [])], [(27, 1001, 0), (28, 1001, 0), (15, 1001, 0), (16, 1001, 0)], (4, 240, 0, 0))
noncomputable def zφ_psh7 (A : Nat → Nat) (Y : List (Nat × Nat)) (F : List (Nat × Nat × Nat)) (M : Nat → Nat → Int) (V : Nat → Nat → Int) (n1ξ npξ : Nat) (t0ξ : Int) (Lwξ : List yK) (h9ξ : Nat) : (Nat → Option Nat) → (Nat → Nat → Int) → List Int → Prop := fun P G ps => zM A Y F M P G ∧ ps.getD 0 0 = (A 5 : Int) ∧ zMc Y F ∧ (∀ o k, zNc o → M o k = V o k) ∧ zDst A Y F V Lwξ 7 53 t0ξ (zd_hr (zRc V 7 53) n1ξ npξ (zd_sp (zRc V 7 53) Lwξ t0ξ) (zd_ru (zRc V 7 53) Lwξ t0ξ) t0ξ h9ξ) M ∧ (ps.getD 1 0) = (h9ξ : Int) ∧ h9ξ < 24 ∧ zc_ok V 7 53 n1ξ npξ ∧ 0 ≤ t0ξ ∧ t0ξ ≤ 12
noncomputable def zψ_psh7 (A : Nat → Nat) (Y : List (Nat × Nat)) (F : List (Nat × Nat × Nat)) (M : Nat → Nat → Int) (V : Nat → Nat → Int) (n1ξ npξ : Nat) (t0ξ : Int) (Lwξ : List yK) (h9ξ : Nat) : (Nat → Option Nat) → (Nat → Nat → Int) → List Int → (Nat → Option Nat) → (Nat → Nat → Int) → Int → Prop := fun P G ps P' G' rn => P' = P ∧ ∃ M' : Nat → Nat → Int, zM A Y F M' P' G' ∧ (∀ o k, zNc o → M' o k = V o k) ∧ zDst A Y F V Lwξ 7 53 t0ξ (zd_hr (zRc V 7 53) n1ξ npξ (zd_sp (zRc V 7 53) Lwξ t0ξ) (zd_ru (zRc V 7 53) Lwξ t0ξ) t0ξ (h9ξ + 1)) M'
theorem zX_psh7 {l : Launch} {w : zk_W} (hWξ : zh_W w) (A : Nat → Nat) (Y : List (Nat × Nat)) (F : List (Nat × Nat × Nat)) (M : Nat → Nat → Int) (V : Nat → Nat → Int) (n1ξ npξ : Nat) (t0ξ : Int) (Lwξ : List yK) (h9ξ : Nat) : zk_metX l w zt_dv zt_TB zK_psh7 (zp_A (zφ_psh7 A Y F M V n1ξ npξ t0ξ Lwξ h9ξ)) (zp_B (zψ_psh7 A Y F M V n1ξ npξ t0ξ Lwξ h9ξ)) ∧ zk_cok w zt_TB zK_psh7 := by
  refine zp_methX (cn := "WoundTown$Day") zp_lkallDy hWξ (pl := 1011) rfl (by decide +kernel) (fun p e R s m args below meth c Q u hx hb hEξ hQξ hU5ξ heffξ hnLξ hokξ hφ => ?_)
  have hwξ := hWξ.1
  obtain ⟨p0ξ, p1ξ, hpsξ, tk0, tk1⟩ := zp_ps2 hokξ
  have hrmξ : zk_Kr (zk_ev (zt_types, zp_lkDy, zt_dv, [], [], zp_lcDy, zK_psh7)) = zk_Kr zK_psh7 := rfl
  rw [hpsξ] at hφ ⊢
  have hφ : zM A Y F M u.1 (zp_n u.2.1) ∧ p0ξ = (A 5 : Int) ∧ zMc Y F ∧ (∀ o k, zNc o → M o k = V o k) ∧ zDst A Y F V Lwξ 7 53 t0ξ (zd_hr (zRc V 7 53) n1ξ npξ (zd_sp (zRc V 7 53) Lwξ t0ξ) (zd_ru (zRc V 7 53) Lwξ t0ξ) t0ξ h9ξ) M ∧ p1ξ = (h9ξ : Int) ∧ h9ξ < 24 ∧ zc_ok V 7 53 n1ξ npξ ∧ 0 ≤ t0ξ ∧ t0ξ ≤ 12 := hφ
  obtain ⟨hMξ, rfl, hYFξ, hV0ξ, hDs0ξ, rfl, hh24ξ, hokξ, ht0ξ, ht12ξ⟩ := hφ
  have hYF0ξ := hYFξ
  obtain ⟨hYbξ, hFbξ, hFxξ, -⟩ := hYFξ
  have hi1ξ := zp_int tk1
  have hM00ξ := hMξ
  obtain ⟨hn10ξ, hnp6ξ, hn1ξ, hnpξ, hDwξ, hDpξ⟩ := hokξ.1
  have hn1ξ : V 1 3 = (n1ξ : Int) := hn1ξ
  have hnpξ : V 1 1 = (npξ : Int) := hnpξ
  have hpwbξ := zd_pwb (R := (zRc V 7 53)) (L := Lwξ) ht0ξ ht12ξ (h := h9ξ)
  obtain ⟨X0ξ, hX0ξ⟩ : ∃ X0ξ, X0ξ = zd_hr (zRc V 7 53) n1ξ npξ (zd_sp (zRc V 7 53) Lwξ t0ξ) (zd_ru (zRc V 7 53) Lwξ t0ξ) t0ξ h9ξ := ⟨_, rfl⟩
  rw [← hX0ξ] at hDs0ξ
  have hibξ : zc_ib (zRc V 7 53) n1ξ h9ξ X0ξ := by
    rw [hX0ξ]
    exact zc_ibh (fun w hwξ => (hDwξ w hwξ).2.2.1) hokξ.2
  have hXb0ξ : ∀ w, w < n1ξ → 0 ≤ X0ξ.1 w ∧ X0ξ.1 w ≤ 600 := fun w hwξ => by rw [hX0ξ]; exact zd_hrb hokξ.1 hwξ
  show zp_J p l e R s m args below meth c Q w u [] 0 [(0, 2, (A 5 : Int)), (1, 0, (h9ξ : Int))] [] u.1 (zp_n u.2.1)
  have loop : ∀ (r9ξ p9ξ : Nat) (M : Nat → Nat → Int) (G : Nat → Nat → Int), r9ξ + p9ξ = npξ → zM A Y F M u.1 G → (∀ o k, zNc o → M o k = V o k) → zDst A Y F V Lwξ 7 53 t0ξ (zd_hp (zRc V 7 53) (zd_rd (zRc V 7 53) X0ξ.1) n1ξ (zd_sp (zRc V 7 53) Lwξ t0ξ (zd_pw (zd_ru (zRc V 7 53) Lwξ t0ξ) t0ξ h9ξ) h9ξ) h9ξ X0ξ p9ξ) M → zp_J p l e R s m args below meth c Q w u [] 2 [(2, 0, (p9ξ : Int)), (0, 2, (A 5 : Int)), (1, 0, (h9ξ : Int))] [] u.1 G := by
    intro r9ξ
    induction r9ξ with
    | zero =>
      intro p9ξ M G hrξ hMξ hVξ hDsξ
      obtain ⟨hAbξ, ⟨h51ξ, h52ξ⟩, hpwξ, hXξ⟩ := hDsξ
      refine zp_load (pc := 2) hx hb (zd_X0_passHour (2, .iload_n 2, 1, 0, []) (List.mem_of_getElem? (i := 2) rfl)) rfl (j := 0) rfl ?_
      refine zp_load (pc := 3) hx hb (zd_X0_passHour (3, .aload_n 0, 1, 0, []) (List.mem_of_getElem? (i := 3) rfl)) rfl (j := 1) rfl ?_
      refine zp_getf (n := (A 1 : Int)) (pc := 4) hx hb hEξ hwξ (zd_X0_passHour (4, .getfield 25, 3, 0, []) (List.mem_of_getElem? (i := 4) rfl)) (j := 18) rfl rfl rfl (zM_P hMξ (hYbξ _ (List.mem_of_getElem? (i := 5) rfl))) ((zM_G hMξ (hYbξ _ (List.mem_of_getElem? (i := 5) rfl)) 1).trans h51ξ) ?_
      refine zp_getf (n := (npξ : Int)) (pc := 7) hx hb hEξ hwξ (zd_X0_passHour (7, .getfield 87, 3, 0, []) (List.mem_of_getElem? (i := 5) rfl)) (j := 4) rfl rfl rfl (zM_P hMξ (hYbξ _ (List.mem_of_getElem? (i := 1) rfl))) (((zM_G hMξ (hYbξ _ (List.mem_of_getElem? (i := 1) rfl)) 1).trans (hVξ 1 1 (by decide))).trans hnpξ) ?_
      refine zp_icmp (pc := 10) (tgt := 127) hx hb (zd_X0_passHour (10, .if_icmp .ge 117, 3, 0, []) (List.mem_of_getElem? (i := 6) rfl)) rfl (fun (hc487ξ : (npξ : Int) ≤ (p9ξ : Int)) => ?_) (fun (hc487ξ : ¬ ((npξ : Int) ≤ (p9ξ : Int))) => ?_)
      · obtain rfl : p9ξ = npξ := by omega
        refine zp_vret (pc := 127) hx hb hEξ hQξ hU5ξ rfl (by decide) (zd_X0_passHour (127, .return_, 1, 0, []) (List.mem_of_getElem? (i := 72) rfl)) (j := 0) rfl ?_
        rw [hpsξ]
        refine ⟨rfl, M, hMξ, ?_⟩
        exact ⟨hVξ, hAbξ, ⟨h51ξ, h52ξ⟩, hpwξ, by rw [zd_hr, ← hX0ξ]; exact hXξ⟩
      · exfalso
        omega
    | succ r9ξ ih =>
      intro p9ξ M G hrξ hMξ hVξ hDsξ
      obtain ⟨X, hXeξ⟩ : ∃ X, X = (zd_hp (zRc V 7 53) (zd_rd (zRc V 7 53) X0ξ.1) n1ξ (zd_sp (zRc V 7 53) Lwξ t0ξ (zd_pw (zd_ru (zRc V 7 53) Lwξ t0ξ) t0ξ h9ξ) h9ξ) h9ξ X0ξ p9ξ) := ⟨_, rfl⟩
      rw [← hXeξ] at hDsξ
      obtain ⟨hAbξ, ⟨h51ξ, h52ξ⟩, hpwξ, hXξ⟩ := hDsξ
      have hihξ : zc_ih (zRc V 7 53) n1ξ h9ξ X0ξ X := by
        rw [hXeξ]
        exact zc_ihp hibξ (fun w hwξ => (hDwξ w hwξ).2.2.1)
      have hXbξ : ∀ w, w < n1ξ → 0 ≤ X.1 w ∧ X.1 w ≤ 600 := fun w hwξ => by rw [hXeξ]; exact zd_hpb hokξ.1 hXb0ξ hwξ
      have hspbξ := zd_spb (R := (zRc V 7 53)) (L := Lwξ) (t := t0ξ) (pw := (zd_pw (zd_ru (zRc V 7 53) Lwξ t0ξ) t0ξ h9ξ)) (h := h9ξ) (p := p9ξ)
      refine zp_load (pc := 2) hx hb (zd_X0_passHour (2, .iload_n 2, 1, 0, []) (List.mem_of_getElem? (i := 2) rfl)) rfl (j := 0) rfl ?_
      refine zp_load (pc := 3) hx hb (zd_X0_passHour (3, .aload_n 0, 1, 0, []) (List.mem_of_getElem? (i := 3) rfl)) rfl (j := 1) rfl ?_
      refine zp_getf (n := (A 1 : Int)) (pc := 4) hx hb hEξ hwξ (zd_X0_passHour (4, .getfield 25, 3, 0, []) (List.mem_of_getElem? (i := 4) rfl)) (j := 18) rfl rfl rfl (zM_P hMξ (hYbξ _ (List.mem_of_getElem? (i := 5) rfl))) ((zM_G hMξ (hYbξ _ (List.mem_of_getElem? (i := 5) rfl)) 1).trans h51ξ) ?_
      refine zp_getf (n := (npξ : Int)) (pc := 7) hx hb hEξ hwξ (zd_X0_passHour (7, .getfield 87, 3, 0, []) (List.mem_of_getElem? (i := 5) rfl)) (j := 4) rfl rfl rfl (zM_P hMξ (hYbξ _ (List.mem_of_getElem? (i := 1) rfl))) (((zM_G hMξ (hYbξ _ (List.mem_of_getElem? (i := 1) rfl)) 1).trans (hVξ 1 1 (by decide))).trans hnpξ) ?_
      refine zp_icmp (pc := 10) (tgt := 127) hx hb (zd_X0_passHour (10, .if_icmp .ge 117, 3, 0, []) (List.mem_of_getElem? (i := 6) rfl)) rfl (fun (hc488ξ : (npξ : Int) ≤ (p9ξ : Int)) => ?_) (fun (hc488ξ : ¬ ((npξ : Int) ≤ (p9ξ : Int))) => ?_)
      · exfalso
        omega
      · refine zp_load (pc := 13) hx hb (zd_X0_passHour (13, .iload_n 2, 1, 0, []) (List.mem_of_getElem? (i := 7) rfl)) rfl (j := 0) rfl ?_
        refine zp_const (pc := 14) hx hb (zd_X0_passHour (14, .bipush 6, 2, 0, []) (List.mem_of_getElem? (i := 8) rfl)) rfl rfl ?_
        refine zp_icmp (pc := 16) (tgt := 127) hx hb (zd_X0_passHour (16, .if_icmp .ge 111, 3, 0, []) (List.mem_of_getElem? (i := 9) rfl)) rfl (fun (hc489ξ : 6 ≤ (p9ξ : Int)) => ?_) (fun (hc489ξ : ¬ (6 ≤ (p9ξ : Int))) => ?_)
        · exfalso
          omega
        · refine zp_load (pc := 19) hx hb (zd_X0_passHour (19, .aload_n 0, 1, 0, []) (List.mem_of_getElem? (i := 10) rfl)) rfl (j := 1) rfl ?_
          refine zp_load (pc := 20) hx hb (zd_X0_passHour (20, .iload_n 2, 1, 0, []) (List.mem_of_getElem? (i := 11) rfl)) rfl (j := 0) rfl ?_
          refine zp_load (pc := 21) hx hb (zd_X0_passHour (21, .iload_n 1, 1, 0, []) (List.mem_of_getElem? (i := 12) rfl)) rfl (j := 2) rfl ?_
          refine zp_call (pc := 22) (how := 0) (idx := 90) (mi := 109) (S := []) hx hb hEξ hwξ heffξ hrmξ (zX_wofd hWξ A Y F M V X n1ξ) rfl (j := 5) rfl rfl (by decide +kernel) (zd_X0_passHour (22, .invokevirtual 90, 3, 0, []) (List.mem_of_getElem? (i := 13) rfl)) [(A 5 : Int), (p9ξ : Int), (h9ξ : Int)] rfl ⟨zp_o2 (zM_P hMξ (hYbξ _ (List.mem_of_getElem? (i := 5) rfl))), zp_o0 (by omega) (by omega) (by omega) (by omega), zp_o0 (by omega) (by omega) (by omega) (by omega), trivial⟩ (Nat.le_of_ble_eq_true rfl) ⟨hMξ, rfl, hYF0ξ, hVξ, h51ξ, hXξ, hn1ξ, hn10ξ⟩ (fun al halξ rnq Pq Gq hextqξ hfrqξ hokqξ hcsqξ hpsiqξ => ?_)
          obtain rfl := List.mem_singleton.mp halξ
          have hrqξ := zp_int (hokqξ _ rfl).1
          obtain ⟨hPeqξ, hGeqξ, htqξ⟩ := hpsiqξ
          rw [hPeqξ, hGeqξ]
          clear hextqξ hfrqξ hcsqξ hPeqξ hGeqξ
          have htqξ : rnq = zd_pk (zRc V 7 53) (zd_rd (zRc V 7 53) X0ξ.1) X.1 p9ξ n1ξ 0 := Eq.trans htqξ (zc_woe hn1ξ hn10ξ hihξ (fun w hwξ => ⟨(hDwξ w hwξ).1, (hDwξ w hwξ).2.1⟩) (by omega))
          rcases zd_pk_r (R := (zRc V 7 53)) (D := zd_rd (zRc V 7 53) X0ξ.1) (W := X.1) (p := p9ξ) (k := n1ξ) (w := 0) with e9ξ | ⟨j9ξ, e9ξ, -, ej9, -, -, ej8⟩
          · have htqξ : rnq = -1 := (Eq.trans htqξ) e9ξ
            subst htqξ
            refine zp_store (L' := [(3, 0, (-1)), (2, 0, (p9ξ : Int)), (0, 2, (A 5 : Int)), (1, 0, (h9ξ : Int))]) (pc := 25) hx hb hnLξ (zd_X0_passHour (25, .istore_n 3, 1, 0, []) (List.mem_of_getElem? (i := 14) rfl)) rfl rfl rfl ?_
            refine zp_load (pc := 26) hx hb (zd_X0_passHour (26, .iload_n 3, 1, 0, []) (List.mem_of_getElem? (i := 15) rfl)) rfl (j := 0) rfl ?_
            refine zp_const (pc := 27) hx hb (zd_X0_passHour (27, .iconst (-1), 1, 0, []) (List.mem_of_getElem? (i := 16) rfl)) rfl rfl ?_
            refine zp_icmp (pc := 28) (tgt := 34) hx hb (zd_X0_passHour (28, .if_icmp .ne 6, 3, 0, []) (List.mem_of_getElem? (i := 17) rfl)) rfl (fun (hc490ξ : ¬ (-1 : Int) = (-1)) => ?_) (fun (hc490ξ : ¬ (¬ (-1 : Int) = (-1))) => ?_)
            · exfalso
              omega
            · refine zp_goto (tgt := 121) (pc := 31) hx hb (zd_X0_passHour (31, .goto 90, 3, 0, []) (List.mem_of_getElem? (i := 18) rfl)) rfl ?_
              refine zp_iinc (L' := [(2, 0, ((p9ξ : Int) + 1)), (3, 0, (-1)), (0, 2, (A 5 : Int)), (1, 0, (h9ξ : Int))]) (n := ((p9ξ : Int) + 1)) (pc := 121) hx hb hnLξ (zd_X0_passHour (121, .iinc 2 1, 3, 0, []) (List.mem_of_getElem? (i := 70) rfl)) (j := 1) rfl (by omega) (zp_r0 (by omega) (by omega)) rfl rfl ?_
              refine zp_goto (tgt := 2) (pc := 124) hx hb (zd_X0_passHour (124, .goto (-122), 3, 0, []) (List.mem_of_getElem? (i := 71) rfl)) rfl ?_
              refine zp_drop (L' := [(2, 0, ((p9ξ : Int) + 1)), (0, 2, (A 5 : Int)), (1, 0, (h9ξ : Int))]) (by simp) ?_
              refine ih (p9ξ + 1) M G (by omega) hMξ hVξ ⟨hAbξ, ⟨h51ξ, h52ξ⟩, hpwξ, ?_⟩
              rw [zd_hp, ← hXeξ]
              unfold zd_ps
              rw [if_pos e9ξ]
              exact hXξ
          · have htqξ : rnq = (j9ξ : Int) := (Eq.trans htqξ) e9ξ
            subst htqξ
            have hxb9ξ := hXbξ j9ξ (by omega)
            have hm1ξ : V 33 (2000 + j9ξ) = (zRc V 7 53) (5 * j9ξ + 40) := (zRc_w (i := 1) (by omega) (by omega)).symm
            have hmjξ := hDwξ j9ξ (by omega)
            rw [← hm1ξ] at hmjξ ej8
            refine zp_store (L' := [(3, 0, (j9ξ : Int)), (2, 0, (p9ξ : Int)), (0, 2, (A 5 : Int)), (1, 0, (h9ξ : Int))]) (pc := 25) hx hb hnLξ (zd_X0_passHour (25, .istore_n 3, 1, 0, []) (List.mem_of_getElem? (i := 14) rfl)) rfl rfl rfl ?_
            refine zp_load (pc := 26) hx hb (zd_X0_passHour (26, .iload_n 3, 1, 0, []) (List.mem_of_getElem? (i := 15) rfl)) rfl (j := 0) rfl ?_
            refine zp_const (pc := 27) hx hb (zd_X0_passHour (27, .iconst (-1), 1, 0, []) (List.mem_of_getElem? (i := 16) rfl)) rfl rfl ?_
            refine zp_icmp (pc := 28) (tgt := 34) hx hb (zd_X0_passHour (28, .if_icmp .ne 6, 3, 0, []) (List.mem_of_getElem? (i := 17) rfl)) rfl (fun (hc491ξ : ¬ (j9ξ : Int) = (-1)) => ?_) (fun (hc491ξ : ¬ (¬ (j9ξ : Int) = (-1))) => ?_)
            · refine zp_load (pc := 34) hx hb (zd_X0_passHour (34, .aload_n 0, 1, 0, []) (List.mem_of_getElem? (i := 19) rfl)) rfl (j := 2) rfl ?_
              refine zp_getf (n := (A 4 : Int)) (pc := 35) hx hb hEξ hwξ (zd_X0_passHour (35, .getfield 21, 3, 0, []) (List.mem_of_getElem? (i := 20) rfl)) (j := 17) rfl rfl rfl (zM_P hMξ (hYbξ _ (List.mem_of_getElem? (i := 5) rfl))) ((zM_G hMξ (hYbξ _ (List.mem_of_getElem? (i := 5) rfl)) 0).trans (zM_F hMξ (hFbξ _ (List.mem_of_getElem? (i := 43) rfl)))) ?_
              refine zp_load (pc := 38) hx hb (zd_X0_passHour (38, .iload_n 1, 1, 0, []) (List.mem_of_getElem? (i := 21) rfl)) rfl (j := 3) rfl ?_
              refine zp_load (pc := 39) hx hb (zd_X0_passHour (39, .aload_n 0, 1, 0, []) (List.mem_of_getElem? (i := 22) rfl)) rfl (j := 2) rfl ?_
              refine zp_getf (n := (A 68 : Int)) (pc := 40) hx hb hEξ hwξ (zd_X0_passHour (40, .getfield 9, 3, 0, []) (List.mem_of_getElem? (i := 23) rfl)) (j := 20) rfl rfl rfl (zM_P hMξ (hYbξ _ (List.mem_of_getElem? (i := 5) rfl))) ((zM_G hMξ (hYbξ _ (List.mem_of_getElem? (i := 5) rfl)) 3).trans (zM_F hMξ (hFbξ _ (List.mem_of_getElem? (i := 44) rfl)))) ?_
              refine zp_load (pc := 43) hx hb (zd_X0_passHour (43, .iload_n 1, 1, 0, []) (List.mem_of_getElem? (i := 24) rfl)) rfl (j := 3) rfl ?_
              refine zp_iald (j := h9ξ) (v := (zd_pw (zd_ru (zRc V 7 53) Lwξ t0ξ) t0ξ h9ξ)) (pc := 44) hx hb hwξ (zd_X0_passHour (44, .iaload, 1, 0, []) (List.mem_of_getElem? (i := 25) rfl)) (show zp_ia 1 14 = some (24, 0, 0, (-2147483648), 2147483647) from rfl) (zM_P hMξ (hYbξ _ (List.mem_of_getElem? (i := 46) rfl))) (by omega) (by omega) ((zM_G hMξ (hYbξ _ (List.mem_of_getElem? (i := 46) rfl)) (2000 + h9ξ)).trans (hpwξ h9ξ (by omega))) (fun hk492ξ => ?_)
              have hk492bξ := zp_int hk492ξ
              clear hk492ξ
              refine zp_load (pc := 45) hx hb (zd_X0_passHour (45, .iload_n 2, 1, 0, []) (List.mem_of_getElem? (i := 26) rfl)) rfl (j := 1) rfl ?_
              refine zp_load (pc := 46) hx hb (zd_X0_passHour (46, .aload_n 0, 1, 0, []) (List.mem_of_getElem? (i := 27) rfl)) rfl (j := 2) rfl ?_
              refine zp_getf (n := (A 7 : Int)) (pc := 47) hx hb hEξ hwξ (zd_X0_passHour (47, .getfield 35, 3, 0, []) (List.mem_of_getElem? (i := 28) rfl)) (j := 19) rfl rfl rfl (zM_P hMξ (hYbξ _ (List.mem_of_getElem? (i := 5) rfl))) ((zM_G hMξ (hYbξ _ (List.mem_of_getElem? (i := 5) rfl)) 2).trans h52ξ) ?_
              refine zp_getf (n := (A 53 : Int)) (pc := 50) hx hb hEξ hwξ (zd_X0_passHour (50, .getfield 93, 3, 0, []) (List.mem_of_getElem? (i := 29) rfl)) (j := 0) rfl rfl rfl (zM_P hMξ (hYbξ _ (List.mem_of_getElem? (i := 7) rfl))) ((zM_G hMξ (hYbξ _ (List.mem_of_getElem? (i := 7) rfl)) 0).trans (zM_F hMξ (hFbξ _ (List.mem_of_getElem? (i := 28) rfl)))) ?_
              refine zp_load (pc := 53) hx hb (zd_X0_passHour (53, .iload_n 2, 1, 0, []) (List.mem_of_getElem? (i := 30) rfl)) rfl (j := 1) rfl ?_
              refine zp_iald (j := p9ξ) (v := (V 53 (2000 + p9ξ))) (pc := 54) hx hb hwξ (zd_X0_passHour (54, .iaload, 1, 0, []) (List.mem_of_getElem? (i := 31) rfl)) (show zp_ia 1 17 = some (6, 0, 0, (-2147483648), 2147483647) from rfl) (zM_P hMξ (hYbξ _ (List.mem_of_getElem? (i := 31) rfl))) (by omega) (by omega) ((zM_G hMξ (hYbξ _ (List.mem_of_getElem? (i := 31) rfl)) (2000 + p9ξ)).trans (hVξ 53 (2000 + p9ξ) (by decide))) (fun hk493ξ => ?_)
              have hk493bξ := zp_int hk493ξ
              clear hk493ξ
              refine zp_load (pc := 55) hx hb (zd_X0_passHour (55, .aload_n 0, 1, 0, []) (List.mem_of_getElem? (i := 32) rfl)) rfl (j := 2) rfl ?_
              refine zp_getf (n := (A 7 : Int)) (pc := 56) hx hb hEξ hwξ (zd_X0_passHour (56, .getfield 35, 3, 0, []) (List.mem_of_getElem? (i := 33) rfl)) (j := 19) rfl rfl rfl (zM_P hMξ (hYbξ _ (List.mem_of_getElem? (i := 5) rfl))) ((zM_G hMξ (hYbξ _ (List.mem_of_getElem? (i := 5) rfl)) 2).trans h52ξ) ?_
              refine zp_getf (n := (A 54 : Int)) (pc := 59) hx hb hEξ hwξ (zd_X0_passHour (59, .getfield 96, 3, 0, []) (List.mem_of_getElem? (i := 34) rfl)) (j := 1) rfl rfl rfl (zM_P hMξ (hYbξ _ (List.mem_of_getElem? (i := 7) rfl))) ((zM_G hMξ (hYbξ _ (List.mem_of_getElem? (i := 7) rfl)) 1).trans (zM_F hMξ (hFbξ _ (List.mem_of_getElem? (i := 29) rfl)))) ?_
              refine zp_load (pc := 62) hx hb (zd_X0_passHour (62, .iload_n 2, 1, 0, []) (List.mem_of_getElem? (i := 35) rfl)) rfl (j := 1) rfl ?_
              refine zp_iald (j := p9ξ) (v := (V 54 (2000 + p9ξ))) (pc := 63) hx hb hwξ (zd_X0_passHour (63, .iaload, 1, 0, []) (List.mem_of_getElem? (i := 36) rfl)) (show zp_ia 1 18 = some (6, 0, 0, 0, 45) from rfl) (zM_P hMξ (hYbξ _ (List.mem_of_getElem? (i := 32) rfl))) (by omega) (by omega) ((zM_G hMξ (hYbξ _ (List.mem_of_getElem? (i := 32) rfl)) (2000 + p9ξ)).trans (hVξ 54 (2000 + p9ξ) (by decide))) (fun hk494ξ => ?_)
              have hk494bξ := zp_int hk494ξ
              clear hk494ξ
              have hlr495ξ := zg_lawM hMξ hYF0ξ hVξ hAbξ (pw := (zd_pw (zd_ru (zRc V 7 53) Lwξ t0ξ) t0ξ h9ξ)) (hrξ := (h9ξ : Int)) (p := (p9ξ : Int)) (o := (V 53 (2000 + p9ξ))) (l := (V 54 (2000 + p9ξ))) (by omega) (by omega) (by omega) (by omega) (by omega) (zc_po (g := 7) (b := 53) (by omega)) (zc_pl9 (g := 7) (b := 53) (by omega))
              refine zp_call (pc := 64) (how := 0) (idx := 99) (mi := 111) (S := []) hx hb hEξ hwξ heffξ hrmξ (zX_sp_ hWξ (A 66) (fun j => M 66 (2000 + j)) (zg_ew (zRc V 7 53) zd_S0 t0ξ (zd_pw (zd_ru (zRc V 7 53) Lwξ t0ξ) t0ξ h9ξ) (h9ξ : Int) (p9ξ : Int)) Lwξ) rfl (j := 8) rfl rfl (by decide +kernel) (zd_X0_passHour (64, .invokevirtual 99, 3, 0, []) (List.mem_of_getElem? (i := 37) rfl)) [(A 4 : Int), (h9ξ : Int), (zd_pw (zd_ru (zRc V 7 53) Lwξ t0ξ) t0ξ h9ξ), (p9ξ : Int), (V 53 (2000 + p9ξ)), (V 54 (2000 + p9ξ))] rfl ⟨zp_o2 (zM_P hMξ (hYbξ _ (List.mem_of_getElem? (i := 4) rfl))), zp_o0 (by omega) (by omega) (by omega) (by omega), zp_o0 (by omega) (by omega) (by omega) (by omega), zp_o0 (by omega) (by omega) (by omega) (by omega), zp_o0 (by omega) (by omega) (by omega) (by omega), zp_o0 (by omega) (by omega) (by omega) (by omega), trivial⟩ (Nat.le_of_ble_eq_true rfl) hlr495ξ (fun al halξ rnr495ξ Pr495 Gr495 hextr495ξ hfrr495ξ hokr495ξ hcsr495ξ hpsir495ξ => ?_)
              obtain rfl := List.mem_singleton.mp halξ
              have hrr495ξ := zp_int (hokr495ξ _ rfl).1
              obtain ⟨hPer495ξ, hWnr495ξ, htr495ξ⟩ := hpsir495ξ
              obtain ⟨Mr495, hMr495ξ, hMkr495ξ, hM6r495ξ⟩ := zM_rul hMξ hYF0ξ hfrr495ξ hextr495ξ
              subst hPer495ξ
              have hVr495ξ : ∀ o k, zNc o → Mr495 o k = V o k := fun o k hkξ => (hMkr495ξ o k (fun e => hkξ (by rw [e]; decide)) (fun e => hkξ (by rw [e]; decide))).trans (hVξ o k hkξ)
              have hAbr495ξ := zAb_n (hAbξ) (fun j => (hM6r495ξ (2000 + j)).trans (hWnr495ξ j)) hlr495ξ.1.2.2.2.2.1 (hMkr495ξ 4 2 (by decide) (by decide))
              clear hextr495ξ hfrr495ξ hokr495ξ hcsr495ξ hlr495ξ
              have htr495ξ : rnr495ξ = (zy_sp (zg_ew (zRc V 7 53) zd_S0 t0ξ (zd_pw (zd_ru (zRc V 7 53) Lwξ t0ξ) t0ξ h9ξ) (h9ξ : Int) (p9ξ : Int)) Lwξ (zd_pw (zd_ru (zRc V 7 53) Lwξ t0ξ) t0ξ h9ξ) (V 54 (2000 + p9ξ))) := htr495ξ
              have htr495ξ : rnr495ξ = (zd_sp (zRc V 7 53) Lwξ t0ξ (zd_pw (zd_ru (zRc V 7 53) Lwξ t0ξ) t0ξ h9ξ) h9ξ p9ξ) := by
                rw [htr495ξ]
                unfold zd_sp
                rw [zRc_l (show p9ξ < 6 by omega)]
              have htr495ξ := (Eq.symm htr495ξ)
              subst htr495ξ
              refine zp_store (L' := [(4, 0, (zd_sp (zRc V 7 53) Lwξ t0ξ (zd_pw (zd_ru (zRc V 7 53) Lwξ t0ξ) t0ξ h9ξ) h9ξ p9ξ)), (3, 0, (j9ξ : Int)), (2, 0, (p9ξ : Int)), (0, 2, (A 5 : Int)), (1, 0, (h9ξ : Int))]) (pc := 67) hx hb hnLξ (zd_X0_passHour (67, .istore 4, 2, 0, []) (List.mem_of_getElem? (i := 38) rfl)) rfl rfl rfl ?_
              refine zp_load (pc := 69) hx hb (zd_X0_passHour (69, .aload_n 0, 1, 0, []) (List.mem_of_getElem? (i := 39) rfl)) rfl (j := 3) rfl ?_
              refine zp_getf (n := (A 69 : Int)) (pc := 70) hx hb hEξ hwξ (zd_X0_passHour (70, .getfield 15, 3, 0, []) (List.mem_of_getElem? (i := 40) rfl)) (j := 21) rfl rfl rfl (zM_P hMr495ξ (hYbξ _ (List.mem_of_getElem? (i := 5) rfl))) ((zM_G hMr495ξ (hYbξ _ (List.mem_of_getElem? (i := 5) rfl)) 4).trans (zM_F hMr495ξ (hFbξ _ (List.mem_of_getElem? (i := 45) rfl)))) ?_
              refine zp_load (pc := 73) hx hb (zd_X0_passHour (73, .iload_n 3, 1, 0, []) (List.mem_of_getElem? (i := 41) rfl)) rfl (j := 1) rfl ?_
              refine zp_load (pc := 74) hx hb (zd_X0_passHour (74, .aload_n 0, 1, 0, []) (List.mem_of_getElem? (i := 42) rfl)) rfl (j := 3) rfl ?_
              refine zp_getf (n := (A 1 : Int)) (pc := 75) hx hb hEξ hwξ (zd_X0_passHour (75, .getfield 25, 3, 0, []) (List.mem_of_getElem? (i := 43) rfl)) (j := 18) rfl rfl rfl (zM_P hMr495ξ (hYbξ _ (List.mem_of_getElem? (i := 5) rfl))) ((zM_G hMr495ξ (hYbξ _ (List.mem_of_getElem? (i := 5) rfl)) 1).trans (Eq.trans (hMkr495ξ 5 1 (by decide) (by decide)) h51ξ)) ?_
              refine zp_getf (n := (A 33 : Int)) (pc := 78) hx hb hEξ hwξ (zd_X0_passHour (78, .getfield 103, 3, 0, []) (List.mem_of_getElem? (i := 44) rfl)) (j := 7) rfl rfl rfl (zM_P hMr495ξ (hYbξ _ (List.mem_of_getElem? (i := 1) rfl))) ((zM_G hMr495ξ (hYbξ _ (List.mem_of_getElem? (i := 1) rfl)) 5).trans (zM_F hMr495ξ (hFbξ _ (List.mem_of_getElem? (i := 16) rfl)))) ?_
              refine zp_load (pc := 81) hx hb (zd_X0_passHour (81, .iload_n 3, 1, 0, []) (List.mem_of_getElem? (i := 45) rfl)) rfl (j := 1) rfl ?_
              refine zp_iald (j := j9ξ) (v := (V 33 (2000 + j9ξ))) (pc := 82) hx hb hwξ (zd_X0_passHour (82, .iaload, 1, 0, []) (List.mem_of_getElem? (i := 46) rfl)) (show zp_ia 1 45 = some (10, 0, 0, (-2147483648), 2147483647) from rfl) (zM_P hMr495ξ (hYbξ _ (List.mem_of_getElem? (i := 20) rfl))) (by omega) (by omega) ((zM_G hMr495ξ (hYbξ _ (List.mem_of_getElem? (i := 20) rfl)) (2000 + j9ξ)).trans (hVr495ξ 33 (2000 + j9ξ) (by decide))) (fun hk496ξ => ?_)
              have hk496bξ := zp_int hk496ξ
              clear hk496ξ
              refine zp_load (pc := 83) hx hb (zd_X0_passHour (83, .aload_n 0, 1, 0, []) (List.mem_of_getElem? (i := 47) rfl)) rfl (j := 3) rfl ?_
              refine zp_getf (n := (A 69 : Int)) (pc := 84) hx hb hEξ hwξ (zd_X0_passHour (84, .getfield 15, 3, 0, []) (List.mem_of_getElem? (i := 48) rfl)) (j := 21) rfl rfl rfl (zM_P hMr495ξ (hYbξ _ (List.mem_of_getElem? (i := 5) rfl))) ((zM_G hMr495ξ (hYbξ _ (List.mem_of_getElem? (i := 5) rfl)) 4).trans (zM_F hMr495ξ (hFbξ _ (List.mem_of_getElem? (i := 45) rfl)))) ?_
              refine zp_load (pc := 87) hx hb (zd_X0_passHour (87, .iload_n 3, 1, 0, []) (List.mem_of_getElem? (i := 49) rfl)) rfl (j := 1) rfl ?_
              refine zp_iald (j := j9ξ) (v := (X.1 j9ξ)) (pc := 88) hx hb hwξ (zd_X0_passHour (88, .iaload, 1, 0, []) (List.mem_of_getElem? (i := 50) rfl)) (show zp_ia 1 15 = some (10, 0, 0, (-2147483648), 2147483647) from rfl) (zM_P hMr495ξ (hYbξ _ (List.mem_of_getElem? (i := 47) rfl))) (by omega) (by omega) ((zM_G hMr495ξ (hYbξ _ (List.mem_of_getElem? (i := 47) rfl)) (2000 + j9ξ)).trans (Eq.trans (hMkr495ξ 69 (2000 + j9ξ) (by decide) (by decide)) (hXξ j9ξ (by omega)).1)) (fun hk497ξ => ?_)
              have hk497bξ := zp_int hk497ξ
              clear hk497ξ
              refine zp_load (pc := 89) hx hb (zd_X0_passHour (89, .iload 4, 2, 0, []) (List.mem_of_getElem? (i := 51) rfl)) rfl (j := 0) rfl ?_
              refine zp_add (n := ((X.1 j9ξ) + (zd_sp (zRc V 7 53) Lwξ t0ξ (zd_pw (zd_ru (zRc V 7 53) Lwξ t0ξ) t0ξ h9ξ) h9ξ p9ξ))) (pc := 91) hx hb (zd_X0_passHour (91, .iadd, 1, 0, []) (List.mem_of_getElem? (i := 52) rfl)) (by omega) (zp_r0 (by omega) (by omega)) ?_
              refine zp_mm (n := (min (V 33 (2000 + j9ξ)) ((X.1 j9ξ) + (zd_sp (zRc V 7 53) Lwξ t0ξ (zd_pw (zd_ru (zRc V 7 53) Lwξ t0ξ) t0ξ h9ξ) h9ξ p9ξ)))) (S := [(0, (j9ξ : Int)), (2, (A 69 : Int))]) (pc := 92) hx hb hEξ hrmξ (zd_X0_passHour (92, .invokestatic 106, 3, 0, []) (List.mem_of_getElem? (i := 53) rfl)) (j := 25) rfl (Or.inr ⟨rfl, by omega⟩) ⟨by decide, Nat.le_of_ble_eq_true rfl⟩ ?_
              refine zp_iast (j := j9ξ) (pc := 95) hx hb hwξ heffξ (zd_X0_passHour (95, .iastore, 1, 0, []) (List.mem_of_getElem? (i := 54) rfl)) (show zp_ia 1 15 = some (10, 0, 0, (-2147483648), 2147483647) from rfl) (zM_P hMr495ξ (hYbξ _ (List.mem_of_getElem? (i := 47) rfl))) (by omega) (by omega) (zp_o0 (by omega) (by omega) (by omega) (by omega)) rfl ?_
              refine zp_load (pc := 96) hx hb (zd_X0_passHour (96, .aload_n 0, 1, 0, []) (List.mem_of_getElem? (i := 55) rfl)) rfl (j := 3) rfl ?_
              refine zp_getf (n := (A 69 : Int)) (pc := 97) hx hb hEξ hwξ (zd_X0_passHour (97, .getfield 15, 3, 0, []) (List.mem_of_getElem? (i := 56) rfl)) (j := 21) rfl rfl rfl (zM_P hMr495ξ (hYbξ _ (List.mem_of_getElem? (i := 5) rfl))) ((zp_set_ne (Or.inl (zM_ne hMr495ξ (hYbξ _ (List.mem_of_getElem? (i := 5) rfl)) (hYbξ _ (List.mem_of_getElem? (i := 47) rfl)) (by decide)))).trans (((zM_G hMr495ξ (hYbξ _ (List.mem_of_getElem? (i := 5) rfl)) 4).trans (zM_F hMr495ξ (hFbξ _ (List.mem_of_getElem? (i := 45) rfl)))))) ?_
              refine zp_load (pc := 100) hx hb (zd_X0_passHour (100, .iload_n 3, 1, 0, []) (List.mem_of_getElem? (i := 57) rfl)) rfl (j := 1) rfl ?_
              refine zp_iald (j := j9ξ) (v := (min (V 33 (2000 + j9ξ)) ((X.1 j9ξ) + (zd_sp (zRc V 7 53) Lwξ t0ξ (zd_pw (zd_ru (zRc V 7 53) Lwξ t0ξ) t0ξ h9ξ) h9ξ p9ξ)))) (pc := 101) hx hb hwξ (zd_X0_passHour (101, .iaload, 1, 0, []) (List.mem_of_getElem? (i := 58) rfl)) (show zp_ia 1 15 = some (10, 0, 0, (-2147483648), 2147483647) from rfl) (zM_P hMr495ξ (hYbξ _ (List.mem_of_getElem? (i := 47) rfl))) (by omega) (by omega) zp_set_self (fun hk498ξ => ?_)
              have hk498bξ := zp_int hk498ξ
              clear hk498ξ
              refine zp_load (pc := 102) hx hb (zd_X0_passHour (102, .aload_n 0, 1, 0, []) (List.mem_of_getElem? (i := 59) rfl)) rfl (j := 3) rfl ?_
              refine zp_getf (n := (A 1 : Int)) (pc := 103) hx hb hEξ hwξ (zd_X0_passHour (103, .getfield 25, 3, 0, []) (List.mem_of_getElem? (i := 60) rfl)) (j := 18) rfl rfl rfl (zM_P hMr495ξ (hYbξ _ (List.mem_of_getElem? (i := 5) rfl))) ((zp_set_ne (Or.inl (zM_ne hMr495ξ (hYbξ _ (List.mem_of_getElem? (i := 5) rfl)) (hYbξ _ (List.mem_of_getElem? (i := 47) rfl)) (by decide)))).trans (((zM_G hMr495ξ (hYbξ _ (List.mem_of_getElem? (i := 5) rfl)) 1).trans (Eq.trans (hMkr495ξ 5 1 (by decide) (by decide)) h51ξ)))) ?_
              refine zp_getf (n := (A 33 : Int)) (pc := 106) hx hb hEξ hwξ (zd_X0_passHour (106, .getfield 103, 3, 0, []) (List.mem_of_getElem? (i := 61) rfl)) (j := 7) rfl rfl rfl (zM_P hMr495ξ (hYbξ _ (List.mem_of_getElem? (i := 1) rfl))) ((zp_set_ne (Or.inl (zM_ne hMr495ξ (hYbξ _ (List.mem_of_getElem? (i := 1) rfl)) (hYbξ _ (List.mem_of_getElem? (i := 47) rfl)) (by decide)))).trans (((zM_G hMr495ξ (hYbξ _ (List.mem_of_getElem? (i := 1) rfl)) 5).trans (zM_F hMr495ξ (hFbξ _ (List.mem_of_getElem? (i := 16) rfl)))))) ?_
              refine zp_load (pc := 109) hx hb (zd_X0_passHour (109, .iload_n 3, 1, 0, []) (List.mem_of_getElem? (i := 62) rfl)) rfl (j := 1) rfl ?_
              refine zp_iald (j := j9ξ) (v := (V 33 (2000 + j9ξ))) (pc := 110) hx hb hwξ (zd_X0_passHour (110, .iaload, 1, 0, []) (List.mem_of_getElem? (i := 63) rfl)) (show zp_ia 1 45 = some (10, 0, 0, (-2147483648), 2147483647) from rfl) (zM_P hMr495ξ (hYbξ _ (List.mem_of_getElem? (i := 20) rfl))) (by omega) (by omega) ((zp_set_ne (Or.inl (zM_ne hMr495ξ (hYbξ _ (List.mem_of_getElem? (i := 20) rfl)) (hYbξ _ (List.mem_of_getElem? (i := 47) rfl)) (by decide)))).trans (((zM_G hMr495ξ (hYbξ _ (List.mem_of_getElem? (i := 20) rfl)) (2000 + j9ξ)).trans (hVr495ξ 33 (2000 + j9ξ) (by decide))))) (fun hk499ξ => ?_)
              have hk499bξ := zp_int hk499ξ
              clear hk499ξ
              refine zp_icmp (pc := 111) (tgt := 121) hx hb (zd_X0_passHour (111, .if_icmp .ne 10, 3, 0, []) (List.mem_of_getElem? (i := 64) rfl)) rfl (fun (hc500ξ : ¬ (min (V 33 (2000 + j9ξ)) ((X.1 j9ξ) + (zd_sp (zRc V 7 53) Lwξ t0ξ (zd_pw (zd_ru (zRc V 7 53) Lwξ t0ξ) t0ξ h9ξ) h9ξ p9ξ))) = (V 33 (2000 + j9ξ))) => ?_) (fun (hc500ξ : ¬ (¬ (min (V 33 (2000 + j9ξ)) ((X.1 j9ξ) + (zd_sp (zRc V 7 53) Lwξ t0ξ (zd_pw (zd_ru (zRc V 7 53) Lwξ t0ξ) t0ξ h9ξ) h9ξ p9ξ))) = (V 33 (2000 + j9ξ)))) => ?_)
              · refine zp_iinc (L' := [(2, 0, ((p9ξ : Int) + 1)), (4, 0, (zd_sp (zRc V 7 53) Lwξ t0ξ (zd_pw (zd_ru (zRc V 7 53) Lwξ t0ξ) t0ξ h9ξ) h9ξ p9ξ)), (3, 0, (j9ξ : Int)), (0, 2, (A 5 : Int)), (1, 0, (h9ξ : Int))]) (n := ((p9ξ : Int) + 1)) (pc := 121) hx hb hnLξ (zd_X0_passHour (121, .iinc 2 1, 3, 0, []) (List.mem_of_getElem? (i := 70) rfl)) (j := 2) rfl (by omega) (zp_r0 (by omega) (by omega)) rfl rfl ?_
                refine zp_goto (tgt := 2) (pc := 124) hx hb (zd_X0_passHour (124, .goto (-122), 3, 0, []) (List.mem_of_getElem? (i := 71) rfl)) rfl ?_
                refine zp_drop (L' := [(2, 0, ((p9ξ : Int) + 1)), (0, 2, (A 5 : Int)), (1, 0, (h9ξ : Int))]) (by simp) ?_
                refine ih (p9ξ + 1) (zp_set Mr495 69 (2000 + j9ξ) (min (V 33 (2000 + j9ξ)) ((X.1 j9ξ) + (zd_sp (zRc V 7 53) Lwξ t0ξ (zd_pw (zd_ru (zRc V 7 53) Lwξ t0ξ) t0ξ h9ξ) h9ξ p9ξ)))) (zp_set Gr495 (A 69) (2000 + j9ξ) (min (V 33 (2000 + j9ξ)) ((X.1 j9ξ) + (zd_sp (zRc V 7 53) Lwξ t0ξ (zd_pw (zd_ru (zRc V 7 53) Lwξ t0ξ) t0ξ h9ξ) h9ξ p9ξ)))) (by omega) (zM_setE hMr495ξ (hYbξ _ (List.mem_of_getElem? (i := 47) rfl))) (zV_scr hVr495ξ (by decide)) ⟨(zAb_f (V' := V) (R' := (zRc V 7 53)) (M' := (zp_set Mr495 69 (2000 + j9ξ) (min (V 33 (2000 + j9ξ)) ((X.1 j9ξ) + (zd_sp (zRc V 7 53) Lwξ t0ξ (zd_pw (zd_ru (zRc V 7 53) Lwξ t0ξ) t0ξ h9ξ) h9ξ p9ξ))))) hAbr495ξ (fun o k h9ξ => (zp_set_ne (Or.inl (by rcases h9ξ with rfl | ⟨rfl, -⟩ <;> decide))).trans (rfl)) (fun o k h9ξ => rfl) ⟨rfl, rfl, rfl⟩), ⟨((zp_set_ne (Or.inl (by decide))).trans ((Eq.trans (hMkr495ξ 5 1 (by decide) (by decide)) h51ξ))), ((zp_set_ne (Or.inl (by decide))).trans ((Eq.trans (hMkr495ξ 5 2 (by decide) (by decide)) h52ξ)))⟩, fun h hhξ => (zp_set_ne (Or.inl (by decide))).trans ((hMkr495ξ 68 _ (by decide) (by decide)).trans (hpwξ h hhξ)), ?_⟩
                have hX9ξ : zDX X Mr495 := fun w hwξ => ⟨(hMkr495ξ 69 _ (by decide) (by decide)).trans (hXξ w hwξ).1, (hMkr495ξ 70 _ (by decide) (by decide)).trans (hXξ w hwξ).2⟩
                rw [zd_hp, ← hXeξ]
                unfold zd_ps
                rw [if_neg (by omega), e9ξ, Int.toNat_natCast, ← hm1ξ]
                intro w hwξ
                by_cases e8 : w = j9ξ
                · rw [e8]
                  have h4ξ := (hihξ j9ξ (by omega)).2.2.2 (by rw [← hm1ξ]; omega)
                  exact ⟨zp_set_self.trans (Eq.trans (by omega) (yu_at).symm), (zp_set_ne (Or.inl (by decide))).trans ((hX9ξ j9ξ (by omega)).2.trans ((Eq.trans h4ξ) (Eq.trans (if_neg (by omega)).symm (yu_at).symm)))⟩
                · exact ⟨(zp_set_ne (Or.inr (by omega))).trans (((hX9ξ w hwξ).1.trans (yu_ne e8).symm)), (zp_set_ne (Or.inl (by decide))).trans (((hX9ξ w hwξ).2.trans (yu_ne e8).symm))⟩
              · refine zp_load (pc := 114) hx hb (zd_X0_passHour (114, .aload_n 0, 1, 0, []) (List.mem_of_getElem? (i := 65) rfl)) rfl (j := 3) rfl ?_
                refine zp_getf (n := (A 70 : Int)) (pc := 115) hx hb hEξ hwξ (zd_X0_passHour (115, .getfield 18, 3, 0, []) (List.mem_of_getElem? (i := 66) rfl)) (j := 22) rfl rfl rfl (zM_P hMr495ξ (hYbξ _ (List.mem_of_getElem? (i := 5) rfl))) ((zp_set_ne (Or.inl (zM_ne hMr495ξ (hYbξ _ (List.mem_of_getElem? (i := 5) rfl)) (hYbξ _ (List.mem_of_getElem? (i := 47) rfl)) (by decide)))).trans (((zM_G hMr495ξ (hYbξ _ (List.mem_of_getElem? (i := 5) rfl)) 5).trans (zM_F hMr495ξ (hFbξ _ (List.mem_of_getElem? (i := 46) rfl)))))) ?_
                refine zp_load (pc := 118) hx hb (zd_X0_passHour (118, .iload_n 3, 1, 0, []) (List.mem_of_getElem? (i := 67) rfl)) rfl (j := 1) rfl ?_
                refine zp_load (pc := 119) hx hb (zd_X0_passHour (119, .iload_n 1, 1, 0, []) (List.mem_of_getElem? (i := 68) rfl)) rfl (j := 4) rfl ?_
                refine zp_iast (j := j9ξ) (pc := 120) hx hb hwξ heffξ (zd_X0_passHour (120, .iastore, 1, 0, []) (List.mem_of_getElem? (i := 69) rfl)) (show zp_ia 1 16 = some (10, 0, 0, (-2147483648), 2147483647) from rfl) (zM_P hMr495ξ (hYbξ _ (List.mem_of_getElem? (i := 48) rfl))) (by omega) (by omega) (zp_o0 (by omega) (by omega) (by omega) (by omega)) rfl ?_
                refine zp_iinc (L' := [(2, 0, ((p9ξ : Int) + 1)), (4, 0, (zd_sp (zRc V 7 53) Lwξ t0ξ (zd_pw (zd_ru (zRc V 7 53) Lwξ t0ξ) t0ξ h9ξ) h9ξ p9ξ)), (3, 0, (j9ξ : Int)), (0, 2, (A 5 : Int)), (1, 0, (h9ξ : Int))]) (n := ((p9ξ : Int) + 1)) (pc := 121) hx hb hnLξ (zd_X0_passHour (121, .iinc 2 1, 3, 0, []) (List.mem_of_getElem? (i := 70) rfl)) (j := 2) rfl (by omega) (zp_r0 (by omega) (by omega)) rfl rfl ?_
                refine zp_goto (tgt := 2) (pc := 124) hx hb (zd_X0_passHour (124, .goto (-122), 3, 0, []) (List.mem_of_getElem? (i := 71) rfl)) rfl ?_
                refine zp_drop (L' := [(2, 0, ((p9ξ : Int) + 1)), (0, 2, (A 5 : Int)), (1, 0, (h9ξ : Int))]) (by simp) ?_
                refine ih (p9ξ + 1) (zp_set (zp_set Mr495 69 (2000 + j9ξ) (min (V 33 (2000 + j9ξ)) ((X.1 j9ξ) + (zd_sp (zRc V 7 53) Lwξ t0ξ (zd_pw (zd_ru (zRc V 7 53) Lwξ t0ξ) t0ξ h9ξ) h9ξ p9ξ)))) 70 (2000 + j9ξ) (h9ξ : Int)) (zp_set (zp_set Gr495 (A 69) (2000 + j9ξ) (min (V 33 (2000 + j9ξ)) ((X.1 j9ξ) + (zd_sp (zRc V 7 53) Lwξ t0ξ (zd_pw (zd_ru (zRc V 7 53) Lwξ t0ξ) t0ξ h9ξ) h9ξ p9ξ)))) (A 70) (2000 + j9ξ) (h9ξ : Int)) (by omega) (zM_setE (zM_setE hMr495ξ (hYbξ _ (List.mem_of_getElem? (i := 47) rfl))) (hYbξ _ (List.mem_of_getElem? (i := 48) rfl))) (zV_scr (zV_scr hVr495ξ (by decide)) (by decide)) ⟨(zAb_f (V' := V) (R' := (zRc V 7 53)) (M' := (zp_set (zp_set Mr495 69 (2000 + j9ξ) (min (V 33 (2000 + j9ξ)) ((X.1 j9ξ) + (zd_sp (zRc V 7 53) Lwξ t0ξ (zd_pw (zd_ru (zRc V 7 53) Lwξ t0ξ) t0ξ h9ξ) h9ξ p9ξ)))) 70 (2000 + j9ξ) (h9ξ : Int))) hAbr495ξ (fun o k h9ξ => (zp_set_ne (Or.inl (by rcases h9ξ with rfl | ⟨rfl, -⟩ <;> decide))).trans ((zp_set_ne (Or.inl (by rcases h9ξ with rfl | ⟨rfl, -⟩ <;> decide))).trans (rfl))) (fun o k h9ξ => rfl) ⟨rfl, rfl, rfl⟩), ⟨((zp_set_ne (Or.inl (by decide))).trans ((zp_set_ne (Or.inl (by decide))).trans ((Eq.trans (hMkr495ξ 5 1 (by decide) (by decide)) h51ξ)))), ((zp_set_ne (Or.inl (by decide))).trans ((zp_set_ne (Or.inl (by decide))).trans ((Eq.trans (hMkr495ξ 5 2 (by decide) (by decide)) h52ξ))))⟩, fun h hhξ => (zp_set_ne (Or.inl (by decide))).trans ((zp_set_ne (Or.inl (by decide))).trans ((hMkr495ξ 68 _ (by decide) (by decide)).trans (hpwξ h hhξ))), ?_⟩
                have hX9ξ : zDX X Mr495 := fun w hwξ => ⟨(hMkr495ξ 69 _ (by decide) (by decide)).trans (hXξ w hwξ).1, (hMkr495ξ 70 _ (by decide) (by decide)).trans (hXξ w hwξ).2⟩
                rw [zd_hp, ← hXeξ]
                unfold zd_ps
                rw [if_neg (by omega), e9ξ, Int.toNat_natCast, ← hm1ξ]
                intro w hwξ
                by_cases e8 : w = j9ξ
                · rw [e8]
                  exact ⟨(zp_set_ne (Or.inl (by decide))).trans (zp_set_self.trans (Eq.trans (by omega) (yu_at).symm)), zp_set_self.trans (Eq.trans (if_pos (by omega)).symm (yu_at).symm)⟩
                · exact ⟨(zp_set_ne (Or.inl (by decide))).trans ((zp_set_ne (Or.inr (by omega))).trans ((hX9ξ w hwξ).1.trans (yu_ne e8).symm)), (zp_set_ne (Or.inr (by omega))).trans ((zp_set_ne (Or.inl (by decide))).trans ((hX9ξ w hwξ).2.trans (yu_ne e8).symm))⟩
            · exfalso
              omega
  refine zp_const (pc := 0) hx hb (zd_X0_passHour (0, .iconst 0, 1, 0, []) (List.mem_of_getElem? (i := 0) rfl)) rfl rfl ?_
  refine zp_store (L' := [(2, 0, 0), (0, 2, (A 5 : Int)), (1, 0, (h9ξ : Int))]) (pc := 1) hx hb hnLξ (zd_X0_passHour (1, .istore_n 2, 1, 0, []) (List.mem_of_getElem? (i := 1) rfl)) rfl rfl rfl ?_
  exact loop npξ 0 M _ (by omega) hM00ξ hV0ξ hDs0ξ
noncomputable def zK_beg7 : zk_K := (zt_mn 105, prog_2_method_2_code, 6, (Option.none : Option Jvm.ClassFile.FieldType), 1, 0, [(2, 0, 0, 0), (2, 10, 0, 0), (2, 2, 0, 0), (0, 0, (-2147483648), 2147483647)], [(none, [])], zUC, (4, 240, 0, 0))
noncomputable def zφ_beg7 (A : Nat → Nat) (Y : List (Nat × Nat)) (F : List (Nat × Nat × Nat)) (V : Nat → Nat → Int) (n1ξ npξ : Nat) (t0ξ : Int) (Lwξ : List yK) : (Nat → Option Nat) → (Nat → Nat → Int) → List Int → Prop := fun P G ps => zMVc A Y F V P G ∧ ps.getD 0 0 = (A 5 : Int) ∧ zMc Y F ∧ (ps.getD 1 0) = (A 1 : Int) ∧ (ps.getD 2 0) = (A 7 : Int) ∧ t0ξ = (ps.getD 3 0) ∧ zLF A Y F V Lwξ ∧ zc_ok V 7 53 n1ξ npξ ∧ 0 ≤ t0ξ ∧ t0ξ ≤ 12
noncomputable def zψ_beg7 (A : Nat → Nat) (Y : List (Nat × Nat)) (F : List (Nat × Nat × Nat)) (V : Nat → Nat → Int) (n1ξ npξ : Nat) (t0ξ : Int) (Lwξ : List yK) : (Nat → Option Nat) → (Nat → Nat → Int) → List Int → (Nat → Option Nat) → (Nat → Nat → Int) → Int → Prop := fun P G ps P' G' rn => P' = P ∧ zMDs A Y F V Lwξ 7 53 t0ξ (zd_hr (zRc V 7 53) n1ξ npξ (zd_sp (zRc V 7 53) Lwξ t0ξ) (zd_ru (zRc V 7 53) Lwξ t0ξ) t0ξ 0) P' G'
theorem zX_beg7 {l : Launch} {w : zk_W} (hWξ : zh_W w) (A : Nat → Nat) (Y : List (Nat × Nat)) (F : List (Nat × Nat × Nat)) (V : Nat → Nat → Int) (n1ξ npξ : Nat) (t0ξ : Int) (Lwξ : List yK) : zk_metX l w zt_dv zt_TB zK_beg7 (zp_A (zφ_beg7 A Y F V n1ξ npξ t0ξ Lwξ)) (zp_B (zψ_beg7 A Y F V n1ξ npξ t0ξ Lwξ)) ∧ zk_cok w zt_TB zK_beg7 := by
  refine zp_methX (cn := "WoundTown$Day") zp_lkallDy hWξ (pl := 997) rfl (by decide +kernel) (fun p e R s m args below meth c Q u hx hb hEξ hQξ hU5ξ heffξ hnLξ hokξ hφ => ?_)
  have hwξ := hWξ.1
  obtain ⟨p0ξ, p1ξ, p2ξ, p3ξ, hpsξ, tk0, tk1, tk2, tk3⟩ := zp_ps4 hokξ
  have hrmξ : zk_Kr (zk_ev (zt_types, zp_lkDy, zt_dv, [], [], zp_lcDy, zK_beg7)) = zk_Kr zK_beg7 := rfl
  rw [hpsξ] at hφ ⊢
  have hφ : zMVc A Y F V u.1 (zp_n u.2.1) ∧ p0ξ = (A 5 : Int) ∧ zMc Y F ∧ p1ξ = (A 1 : Int) ∧ p2ξ = (A 7 : Int) ∧ t0ξ = p3ξ ∧ zLF A Y F V Lwξ ∧ zc_ok V 7 53 n1ξ npξ ∧ 0 ≤ t0ξ ∧ t0ξ ≤ 12 := hφ
  obtain ⟨⟨M, hMξ, hVξ, hSbξ⟩, rfl, hYFξ, rfl, rfl, rfl, hlwξ, hokξ, ht0ξ, ht12ξ⟩ := hφ
  have hYF0ξ := hYFξ
  obtain ⟨hYbξ, hFbξ, hFxξ, -⟩ := hYFξ
  have hi3ξ := zp_int tk3
  show zp_J p l e R s m args below meth c Q w u [] 0 [(0, 2, (A 5 : Int)), (1, 2, (A 1 : Int)), (2, 2, (A 7 : Int)), (3, 0, t0ξ)] [] u.1 (zp_n u.2.1)
  obtain ⟨hn10ξ, hnp6ξ, hn1ξ, hnpξ, hDwξ, hDpξ⟩ := hokξ.1
  have hn1ξ : V 1 3 = (n1ξ : Int) := hn1ξ
  have hnpξ : V 1 1 = (npξ : Int) := hnpξ
  refine zp_load (pc := 0) hx hb (zd_X0_begin (0, .aload_n 0, 1, 0, []) (List.mem_of_getElem? (i := 0) rfl)) rfl (j := 0) rfl ?_
  refine zp_load (pc := 1) hx hb (zd_X0_begin (1, .aload_n 1, 1, 0, []) (List.mem_of_getElem? (i := 1) rfl)) rfl (j := 1) rfl ?_
  refine zp_putr (pc := 2) hx hb hEξ hwξ heffξ (zd_X0_begin (2, .putfield 25, 3, 0, []) (List.mem_of_getElem? (i := 2) rfl)) (j := 18) rfl rfl rfl (zM_P hMξ (hYbξ _ (List.mem_of_getElem? (i := 5) rfl))) (zp_o2 (zM_P hMξ (hYbξ _ (List.mem_of_getElem? (i := 1) rfl)))) ?_
  refine zp_load (pc := 5) hx hb (zd_X0_begin (5, .aload_n 0, 1, 0, []) (List.mem_of_getElem? (i := 3) rfl)) rfl (j := 0) rfl ?_
  refine zp_load (pc := 6) hx hb (zd_X0_begin (6, .aload_n 2, 1, 0, []) (List.mem_of_getElem? (i := 4) rfl)) rfl (j := 2) rfl ?_
  refine zp_putr (pc := 7) hx hb hEξ hwξ heffξ (zd_X0_begin (7, .putfield 35, 3, 0, []) (List.mem_of_getElem? (i := 5) rfl)) (j := 19) rfl rfl rfl (zM_P hMξ (hYbξ _ (List.mem_of_getElem? (i := 5) rfl))) (zp_o2 (zM_P hMξ (hYbξ _ (List.mem_of_getElem? (i := 7) rfl)))) ?_
  refine zp_load (pc := 10) hx hb (zd_X0_begin (10, .aload_n 0, 1, 0, []) (List.mem_of_getElem? (i := 6) rfl)) rfl (j := 0) rfl ?_
  refine zp_getf (n := (A 4 : Int)) (pc := 11) hx hb hEξ hwξ (zd_X0_begin (11, .getfield 21, 3, 0, []) (List.mem_of_getElem? (i := 7) rfl)) (j := 17) rfl rfl rfl (zM_P hMξ (hYbξ _ (List.mem_of_getElem? (i := 5) rfl))) ((zp_set_ne (Or.inr (by decide))).trans ((zp_set_ne (Or.inr (by decide))).trans (((zM_G hMξ (hYbξ _ (List.mem_of_getElem? (i := 5) rfl)) 0).trans (zM_F hMξ (hFbξ _ (List.mem_of_getElem? (i := 43) rfl))))))) ?_
  refine zp_load (pc := 14) hx hb (zd_X0_begin (14, .aload_n 0, 1, 0, []) (List.mem_of_getElem? (i := 8) rfl)) rfl (j := 0) rfl ?_
  refine zp_getf (n := (A 1 : Int)) (pc := 15) hx hb hEξ hwξ (zd_X0_begin (15, .getfield 25, 3, 0, []) (List.mem_of_getElem? (i := 9) rfl)) (j := 18) rfl rfl rfl (zM_P hMξ (hYbξ _ (List.mem_of_getElem? (i := 5) rfl))) ((zp_set_ne (Or.inr (by decide))).trans (zp_set_self)) ?_
  refine zp_load (pc := 18) hx hb (zd_X0_begin (18, .aload_n 0, 1, 0, []) (List.mem_of_getElem? (i := 10) rfl)) rfl (j := 0) rfl ?_
  refine zp_getf (n := (A 7 : Int)) (pc := 19) hx hb hEξ hwξ (zd_X0_begin (19, .getfield 35, 3, 0, []) (List.mem_of_getElem? (i := 11) rfl)) (j := 19) rfl rfl rfl (zM_P hMξ (hYbξ _ (List.mem_of_getElem? (i := 5) rfl))) zp_set_self ?_
  refine zp_load (pc := 22) hx hb (zd_X0_begin (22, .iload_n 3, 1, 0, []) (List.mem_of_getElem? (i := 12) rfl)) rfl (j := 3) rfl ?_
  refine zp_call (pc := 23) (how := 0) (idx := 36) (mi := 90) (S := []) hx hb hEξ hwξ heffξ hrmξ (zX_abt7 hWξ A Y F V Lwξ) rfl (j := 1) rfl rfl (by decide +kernel) (zd_X0_begin (23, .invokevirtual 36, 3, 0, []) (List.mem_of_getElem? (i := 13) rfl)) [(A 4 : Int), (A 1 : Int), (A 7 : Int), t0ξ] rfl ⟨zp_o2 (zM_P hMξ (hYbξ _ (List.mem_of_getElem? (i := 4) rfl))), zp_o2 (zM_P hMξ (hYbξ _ (List.mem_of_getElem? (i := 1) rfl))), zp_o2 (zM_P hMξ (hYbξ _ (List.mem_of_getElem? (i := 7) rfl))), zp_o0 (by omega) (by omega) (by omega) (by omega), trivial⟩ (Nat.le_of_ble_eq_true rfl) ⟨⟨(zp_set (zp_set M 5 1 (A 1 : Int)) 5 2 (A 7 : Int)), (zM_set (zM_set hMξ (hYbξ _ (List.mem_of_getElem? (i := 5) rfl)) (zFx hFxξ (o := 5) (k := 1) (by decide) (by decide))) (hYbξ _ (List.mem_of_getElem? (i := 5) rfl)) (zFx hFxξ (o := 5) (k := 2) (by decide) (by decide))), (zV_scr (zV_scr hVξ (by decide)) (by decide)), trivial⟩, rfl, hYF0ξ, rfl, rfl, hlwξ⟩ (fun al halξ rnab Pab Gab hextabξ hfrabξ hokabξ hcsabξ hpsiabξ => ?_)
  obtain rfl := List.mem_singleton.mp halξ
  obtain ⟨hPeabξ, Mab, hMabξ, hVabξ, hAbabξ⟩ := hpsiabξ
  have hMqξ : zM A Y F (zp_set (zp_set M 5 1 (A 1 : Int)) 5 2 (A 7 : Int)) u.1 (zp_set (zp_set (zp_n u.2.1) (A 5) 1 (A 1 : Int)) (A 5) 2 (A 7 : Int)) := (zM_set (zM_set hMξ (hYbξ _ (List.mem_of_getElem? (i := 5) rfl)) (zFx hFxξ (o := 5) (k := 1) (by decide) (by decide))) (hYbξ _ (List.mem_of_getElem? (i := 5) rfl)) (zFx hFxξ (o := 5) (k := 2) (by decide) (by decide)))
  have h5abξ : ∀ k, Mab 5 k = (zp_set (zp_set M 5 1 (A 1 : Int)) 5 2 (A 7 : Int)) 5 k := fun k => by
    have h9ξ := zp_nf5 hfrabξ (zM_P hMqξ (hYbξ _ (List.mem_of_getElem? (i := 5) rfl))) hMabξ (hYbξ _ (List.mem_of_getElem? (i := 5) rfl)) k
    exact (Eq.trans h9ξ) (zM_G hMqξ (hYbξ _ (List.mem_of_getElem? (i := 5) rfl)) k)
  subst hPeabξ
  clear hextabξ hfrabξ hokabξ hcsabξ
  refine zp_load (pc := 26) hx hb (zd_X0_begin (26, .iload_n 3, 1, 0, []) (List.mem_of_getElem? (i := 14) rfl)) rfl (j := 3) rfl ?_
  refine zp_const (pc := 27) hx hb (zd_X0_begin (27, .bipush 100, 2, 0, []) (List.mem_of_getElem? (i := 15) rfl)) rfl rfl ?_
  refine zp_mul (n := (t0ξ * 100)) (pc := 29) hx hb (zd_X0_begin (29, .imul, 1, 0, []) (List.mem_of_getElem? (i := 16) rfl)) (by omega) (zp_r0 (by omega) (by omega)) ?_
  refine zp_store (L' := [(4, 0, (t0ξ * 100)), (0, 2, (A 5 : Int)), (1, 2, (A 1 : Int)), (2, 2, (A 7 : Int)), (3, 0, t0ξ)]) (pc := 30) hx hb hnLξ (zd_X0_begin (30, .istore 4, 2, 0, []) (List.mem_of_getElem? (i := 17) rfl)) rfl rfl rfl ?_
  refine zp_const (pc := 32) hx hb (zd_X0_begin (32, .iconst 0, 1, 0, []) (List.mem_of_getElem? (i := 18) rfl)) rfl rfl ?_
  refine zp_store (L' := [(5, 0, 0), (4, 0, (t0ξ * 100)), (0, 2, (A 5 : Int)), (1, 2, (A 1 : Int)), (2, 2, (A 7 : Int)), (3, 0, t0ξ)]) (pc := 33) hx hb hnLξ (zd_X0_begin (33, .istore 5, 2, 0, []) (List.mem_of_getElem? (i := 19) rfl)) rfl rfl rfl ?_
  have hd51ξ : Mab 5 1 = (A 1 : Int) := (Eq.trans (h5abξ 1) ((zp_set_ne (Or.inr (by decide))).trans (zp_set_self)))
  have hd52ξ : Mab 5 2 = (A 7 : Int) := (Eq.trans (h5abξ 2) zp_set_self)
  have loop : ∀ (r9ξ h9ξ : Nat) (M : Nat → Nat → Int) (G : Nat → Nat → Int), r9ξ + h9ξ = 24 → zM A Y F M u.1 G → (∀ o k, zNc o → M o k = V o k) → zAb A Y F V Lwξ (zRc V 7 53) t0ξ M → M 5 1 = (A 1 : Int) → M 5 2 = (A 7 : Int) → (∀ h, h < h9ξ → M 68 (2000 + h) = zd_pw (zd_ru (zRc V 7 53) Lwξ t0ξ) t0ξ h) → zp_J p l e R s m args below meth c Q w u [] 35 [(5, 0, (h9ξ : Int)), (4, 0, (zd_pw (zd_ru (zRc V 7 53) Lwξ t0ξ) t0ξ h9ξ)), (0, 2, (A 5 : Int)), (1, 2, (A 1 : Int)), (2, 2, (A 7 : Int)), (3, 0, t0ξ)] [] u.1 G := by
    intro r9ξ
    induction r9ξ with
    | zero =>
      intro h9ξ M G hrξ hMξ hVξ hAbξ h51ξ h52ξ hpwξ
      refine zp_load (pc := 35) hx hb (zd_X0_begin (35, .iload 5, 2, 0, []) (List.mem_of_getElem? (i := 20) rfl)) rfl (j := 0) rfl ?_
      refine zp_const (pc := 37) hx hb (zd_X0_begin (37, .bipush 24, 2, 0, []) (List.mem_of_getElem? (i := 21) rfl)) rfl rfl ?_
      refine zp_icmp (pc := 39) (tgt := 82) hx hb (zd_X0_begin (39, .if_icmp .ge 43, 3, 0, []) (List.mem_of_getElem? (i := 22) rfl)) rfl (fun (hc501ξ : 24 ≤ (h9ξ : Int)) => ?_) (fun (hc501ξ : ¬ (24 ≤ (h9ξ : Int))) => ?_)
      · refine zp_load (pc := 82) hx hb (zd_X0_begin (82, .aload_n 0, 1, 0, []) (List.mem_of_getElem? (i := 42) rfl)) rfl (j := 2) rfl ?_
        refine zp_getf (n := (A 7 : Int)) (pc := 83) hx hb hEξ hwξ (zd_X0_begin (83, .getfield 35, 3, 0, []) (List.mem_of_getElem? (i := 43) rfl)) (j := 19) rfl rfl rfl (zM_P hMξ (hYbξ _ (List.mem_of_getElem? (i := 5) rfl))) ((zM_G hMξ (hYbξ _ (List.mem_of_getElem? (i := 5) rfl)) 2).trans h52ξ) ?_
        refine zp_getf (n := (A 55 : Int)) (pc := 86) hx hb hEξ hwξ (zd_X0_begin (86, .getfield 51, 3, 0, []) (List.mem_of_getElem? (i := 44) rfl)) (j := 2) rfl rfl rfl (zM_P hMξ (hYbξ _ (List.mem_of_getElem? (i := 7) rfl))) ((zM_G hMξ (hYbξ _ (List.mem_of_getElem? (i := 7) rfl)) 2).trans (zM_F hMξ (hFbξ _ (List.mem_of_getElem? (i := 30) rfl)))) ?_
        refine zp_const (pc := 89) hx hb (zd_X0_begin (89, .iconst 0, 1, 0, []) (List.mem_of_getElem? (i := 45) rfl)) rfl rfl ?_
        refine zp_load (pc := 90) hx hb (zd_X0_begin (90, .aload_n 0, 1, 0, []) (List.mem_of_getElem? (i := 46) rfl)) rfl (j := 2) rfl ?_
        refine zp_getf (n := (A 69 : Int)) (pc := 91) hx hb hEξ hwξ (zd_X0_begin (91, .getfield 15, 3, 0, []) (List.mem_of_getElem? (i := 47) rfl)) (j := 21) rfl rfl rfl (zM_P hMξ (hYbξ _ (List.mem_of_getElem? (i := 5) rfl))) ((zM_G hMξ (hYbξ _ (List.mem_of_getElem? (i := 5) rfl)) 4).trans (zM_F hMξ (hFbξ _ (List.mem_of_getElem? (i := 45) rfl)))) ?_
        refine zp_const (pc := 94) hx hb (zd_X0_begin (94, .iconst 0, 1, 0, []) (List.mem_of_getElem? (i := 48) rfl)) rfl rfl ?_
        refine zp_const (pc := 95) hx hb (zd_X0_begin (95, .bipush 10, 2, 0, []) (List.mem_of_getElem? (i := 49) rfl)) rfl rfl ?_
        refine zp_copyO (n := 10) (i0 := 0) (i1 := 0) (pc := 97) (idx := 54) (T0 := zt_types.getD 19 (0, 0, 0, [])) (T := zt_types.getD 15 (0, 0, 0, [])) hx hb hEξ hwξ heffξ hrmξ (zd_X0_begin (97, .invokestatic 54, 3, 0, []) (List.mem_of_getElem? (i := 50) rfl)) (j := 24) rfl rfl rfl rfl rfl (zM_P hMξ (hYbξ _ (List.mem_of_getElem? (i := 33) rfl))) (zM_P hMξ (hYbξ _ (List.mem_of_getElem? (i := 47) rfl))) rfl (by omega) (by omega) (show 0 + 10 ≤ 10 by omega) (show 0 + 10 ≤ 10 by omega) (by omega) (fun j hjξ v h => h) ⟨by decide, by decide⟩ (by decide) (Or.inr ⟨by decide, by decide⟩) rfl ?_
        have hMy502ξ : zM A Y F (zc_cp M 55 0 69 0 10) u.1 (zp_cpo G (A 55) 0 (A 69) 0 10) := zM_cp hMξ (hYbξ _ (List.mem_of_getElem? (i := 33) rfl)) (hYbξ _ (List.mem_of_getElem? (i := 47) rfl))
        have hVy502ξ : ∀ o k, zNc o → (zc_cp M 55 0 69 0 10) o k = V o k := zV_cps (o0 := 55) (i0 := 0) (i1 := 0) (n := 10) (M := M) hVξ (o1 := 69) (fun k => by decide)
        obtain ⟨Gy502, hGy502ξ⟩ : ∃ G9ξ, G9ξ = zp_cpo G (A 55) 0 (A 69) 0 10 := ⟨_, rfl⟩
        rw [← hGy502ξ] at hMy502ξ ⊢
        refine zp_load (pc := 100) hx hb (zd_X0_begin (100, .aload_n 0, 1, 0, []) (List.mem_of_getElem? (i := 51) rfl)) rfl (j := 2) rfl ?_
        refine zp_getf (n := (A 70 : Int)) (pc := 101) hx hb hEξ hwξ (zd_X0_begin (101, .getfield 18, 3, 0, []) (List.mem_of_getElem? (i := 52) rfl)) (j := 22) rfl rfl rfl (zM_P hMy502ξ (hYbξ _ (List.mem_of_getElem? (i := 5) rfl))) ((zM_G hMy502ξ (hYbξ _ (List.mem_of_getElem? (i := 5) rfl)) 5).trans (zM_F hMy502ξ (hFbξ _ (List.mem_of_getElem? (i := 46) rfl)))) ?_
        refine zp_const (pc := 104) hx hb (zd_X0_begin (104, .iconst (-1), 1, 0, []) (List.mem_of_getElem? (i := 53) rfl)) rfl rfl ?_
        refine zp_call (pc := 105) (how := 1) (idx := 60) (mi := 107) (S := []) hx hb hEξ hwξ heffξ hrmξ (zX_fil70 hWξ A Y F (zc_cp M 55 0 69 0 10)) rfl (j := 3) rfl rfl (by decide +kernel) (zd_X0_begin (105, .invokestatic 60, 3, 0, []) (List.mem_of_getElem? (i := 54) rfl)) [(A 70 : Int), (-1)] rfl ⟨zp_o2 (zM_P hMy502ξ (hYbξ _ (List.mem_of_getElem? (i := 48) rfl))), zp_o0 (by omega) (by omega) (by omega) (by omega), trivial⟩ (Nat.le_of_ble_eq_true rfl) ⟨hMy502ξ, rfl, hYF0ξ⟩ (fun al halξ rnfl Pfl Gfl hextflξ hfrflξ hokflξ hcsflξ hpsiflξ => ?_)
        obtain rfl := List.mem_singleton.mp halξ
        obtain ⟨hPeflξ, Mfl, hMflξ, hkflξ, hjflξ⟩ := hpsiflξ
        subst hPeflξ
        clear hextflξ hfrflξ hokflξ hcsflξ
        have hcpξ : ∀ o k, o ≠ 69 → o ≠ 70 → Mfl o k = M o k := fun o k e1 e2 => (hkflξ o k e2).trans (zc_cp_o e1)
        have hVflξ : ∀ o k, zNc o → Mfl o k = V o k := fun o k hkξ => (hcpξ o k (fun e => hkξ (by rw [e]; decide)) (fun e => hkξ (by rw [e]; decide))).trans (hVξ o k hkξ)
        refine zp_vret (pc := 108) hx hb hEξ hQξ hU5ξ rfl (by decide) (zd_X0_begin (108, .return_, 1, 0, []) (List.mem_of_getElem? (i := 55) rfl)) (j := 0) rfl ?_
        rw [hpsξ]
        refine ⟨rfl, ?_⟩
        refine ⟨Mfl, hMflξ, hVflξ, zAb_f hAbξ (fun o k h9ξ => hcpξ o k (by rcases h9ξ with rfl | ⟨rfl, -⟩ <;> decide) (by rcases h9ξ with rfl | ⟨rfl, -⟩ <;> decide)) (fun o k h9ξ => rfl) ⟨rfl, rfl, rfl⟩, ⟨(hcpξ 5 1 (by decide) (by decide)).trans h51ξ, (hcpξ 5 2 (by decide) (by decide)).trans h52ξ⟩, fun h hhξ => (hcpξ 68 _ (by decide) (by decide)).trans (hpwξ h (by omega)), fun w hwξ => ⟨?_, hjflξ w hwξ⟩⟩
        refine (hkflξ 69 _ (by decide)).trans ((zc_cp_e (by omega) (by omega)).trans ?_)
        refine (hVξ 55 _ (by decide)).trans ?_
        show V 55 (2000 + (0 + (w - 0))) = zRc V 7 53 (w + 29)
        rw [zRc_d hwξ, show 0 + (w - 0) = w by omega]
      · exfalso
        omega
    | succ r9ξ ih =>
      intro h9ξ M G hrξ hMξ hVξ hAbξ h51ξ h52ξ hpwξ
      have hpwbξ := zd_pwb (R := (zRc V 7 53)) (L := Lwξ) ht0ξ ht12ξ (h := h9ξ)
      have hrubξ := zd_rub (R := (zRc V 7 53)) (L := Lwξ) (t := t0ξ) (pw := (zd_pw (zd_ru (zRc V 7 53) Lwξ t0ξ) t0ξ h9ξ)) (h := h9ξ)
      have hpw1ξ : (zd_pw (zd_ru (zRc V 7 53) Lwξ t0ξ) t0ξ (h9ξ + 1)) = max 0 (min 100000000 ((zd_pw (zd_ru (zRc V 7 53) Lwξ t0ξ) t0ξ h9ξ) - (zd_ru (zRc V 7 53) Lwξ t0ξ (zd_pw (zd_ru (zRc V 7 53) Lwξ t0ξ) t0ξ h9ξ) h9ξ))) := rfl
      refine zp_load (pc := 35) hx hb (zd_X0_begin (35, .iload 5, 2, 0, []) (List.mem_of_getElem? (i := 20) rfl)) rfl (j := 0) rfl ?_
      refine zp_const (pc := 37) hx hb (zd_X0_begin (37, .bipush 24, 2, 0, []) (List.mem_of_getElem? (i := 21) rfl)) rfl rfl ?_
      refine zp_icmp (pc := 39) (tgt := 82) hx hb (zd_X0_begin (39, .if_icmp .ge 43, 3, 0, []) (List.mem_of_getElem? (i := 22) rfl)) rfl (fun (hc503ξ : 24 ≤ (h9ξ : Int)) => ?_) (fun (hc503ξ : ¬ (24 ≤ (h9ξ : Int))) => ?_)
      · exfalso
        omega
      · refine zp_load (pc := 42) hx hb (zd_X0_begin (42, .aload_n 0, 1, 0, []) (List.mem_of_getElem? (i := 23) rfl)) rfl (j := 2) rfl ?_
        refine zp_getf (n := (A 68 : Int)) (pc := 43) hx hb hEξ hwξ (zd_X0_begin (43, .getfield 9, 3, 0, []) (List.mem_of_getElem? (i := 24) rfl)) (j := 20) rfl rfl rfl (zM_P hMξ (hYbξ _ (List.mem_of_getElem? (i := 5) rfl))) ((zM_G hMξ (hYbξ _ (List.mem_of_getElem? (i := 5) rfl)) 3).trans (zM_F hMξ (hFbξ _ (List.mem_of_getElem? (i := 44) rfl)))) ?_
        refine zp_load (pc := 46) hx hb (zd_X0_begin (46, .iload 5, 2, 0, []) (List.mem_of_getElem? (i := 25) rfl)) rfl (j := 0) rfl ?_
        refine zp_load (pc := 48) hx hb (zd_X0_begin (48, .iload 4, 2, 0, []) (List.mem_of_getElem? (i := 26) rfl)) rfl (j := 1) rfl ?_
        refine zp_iast (j := h9ξ) (pc := 50) hx hb hwξ heffξ (zd_X0_begin (50, .iastore, 1, 0, []) (List.mem_of_getElem? (i := 27) rfl)) (show zp_ia 1 14 = some (24, 0, 0, (-2147483648), 2147483647) from rfl) (zM_P hMξ (hYbξ _ (List.mem_of_getElem? (i := 46) rfl))) (by omega) (by omega) (zp_o0 (by omega) (by omega) (by omega) (by omega)) rfl ?_
        refine zp_load (pc := 51) hx hb (zd_X0_begin (51, .iload 4, 2, 0, []) (List.mem_of_getElem? (i := 28) rfl)) rfl (j := 1) rfl ?_
        refine zp_if (pc := 53) (tgt := 76) hx hb (zd_X0_begin (53, .ifCond .le 23, 3, 0, []) (List.mem_of_getElem? (i := 29) rfl)) rfl (fun (hc504ξ : (zd_pw (zd_ru (zRc V 7 53) Lwξ t0ξ) t0ξ h9ξ) ≤ 0) => ?_) (fun (hc504ξ : ¬ ((zd_pw (zd_ru (zRc V 7 53) Lwξ t0ξ) t0ξ h9ξ) ≤ 0)) => ?_)
        · refine zp_iinc (L' := [(5, 0, ((h9ξ : Int) + 1)), (4, 0, (zd_pw (zd_ru (zRc V 7 53) Lwξ t0ξ) t0ξ h9ξ)), (0, 2, (A 5 : Int)), (1, 2, (A 1 : Int)), (2, 2, (A 7 : Int)), (3, 0, t0ξ)]) (n := ((h9ξ : Int) + 1)) (pc := 76) hx hb hnLξ (zd_X0_begin (76, .iinc 5 1, 3, 0, []) (List.mem_of_getElem? (i := 40) rfl)) (j := 0) rfl (by omega) (zp_r0 (by omega) (by omega)) rfl rfl ?_
          refine zp_goto (tgt := 35) (pc := 79) hx hb (zd_X0_begin (79, .goto (-44), 3, 0, []) (List.mem_of_getElem? (i := 41) rfl)) rfl ?_
          have hl9ξ : (zd_pw (zd_ru (zRc V 7 53) Lwξ t0ξ) t0ξ h9ξ) = (zd_pw (zd_ru (zRc V 7 53) Lwξ t0ξ) t0ξ (h9ξ + 1)) := by rw [hpw1ξ]; omega
          generalize hGq9ξ : (zp_set G (A 68) (2000 + h9ξ) (zd_pw (zd_ru (zRc V 7 53) Lwξ t0ξ) t0ξ h9ξ)) = Gq9
          rw [hl9ξ]
          subst hGq9ξ
          refine zp_drop (L' := [(5, 0, ((h9ξ : Int) + 1)), (4, 0, (zd_pw (zd_ru (zRc V 7 53) Lwξ t0ξ) t0ξ (h9ξ + 1))), (0, 2, (A 5 : Int)), (1, 2, (A 1 : Int)), (2, 2, (A 7 : Int)), (3, 0, t0ξ)]) (by simp) ?_
          refine ih (h9ξ + 1) (zp_set M 68 (2000 + h9ξ) (zd_pw (zd_ru (zRc V 7 53) Lwξ t0ξ) t0ξ h9ξ)) (zp_set G (A 68) (2000 + h9ξ) (zd_pw (zd_ru (zRc V 7 53) Lwξ t0ξ) t0ξ h9ξ)) (by omega) (zM_setE hMξ (hYbξ _ (List.mem_of_getElem? (i := 46) rfl))) (zV_scr hVξ (by decide)) (zAb_f (V' := V) (R' := (zRc V 7 53)) (M' := (zp_set M 68 (2000 + h9ξ) (zd_pw (zd_ru (zRc V 7 53) Lwξ t0ξ) t0ξ h9ξ))) hAbξ (fun o k h9ξ => (zp_set_ne (Or.inl (by rcases h9ξ with rfl | ⟨rfl, -⟩ <;> decide))).trans (rfl)) (fun o k h9ξ => rfl) ⟨rfl, rfl, rfl⟩) (((zp_set_ne (Or.inl (by decide))).trans (h51ξ))) (((zp_set_ne (Or.inl (by decide))).trans (h52ξ))) (fun h hhξ => ?_)
          by_cases e9ξ : h = h9ξ
          · rw [e9ξ]
            exact zp_set_self
          · exact (zp_set_ne (Or.inr (by omega))).trans (hpwξ h (by omega))
        · refine zp_const (pc := 56) hx hb (zd_X0_begin (56, .iconst 0, 1, 0, []) (List.mem_of_getElem? (i := 30) rfl)) rfl rfl ?_
          refine zp_load (pc := 57) hx hb (zd_X0_begin (57, .iload 4, 2, 0, []) (List.mem_of_getElem? (i := 31) rfl)) rfl (j := 1) rfl ?_
          refine zp_load (pc := 59) hx hb (zd_X0_begin (59, .aload_n 0, 1, 0, []) (List.mem_of_getElem? (i := 32) rfl)) rfl (j := 2) rfl ?_
          refine zp_getf (n := (A 4 : Int)) (pc := 60) hx hb hEξ hwξ (zd_X0_begin (60, .getfield 21, 3, 0, []) (List.mem_of_getElem? (i := 33) rfl)) (j := 17) rfl rfl rfl (zM_P hMξ (hYbξ _ (List.mem_of_getElem? (i := 5) rfl))) ((zp_set_ne (Or.inl (zM_ne hMξ (hYbξ _ (List.mem_of_getElem? (i := 5) rfl)) (hYbξ _ (List.mem_of_getElem? (i := 46) rfl)) (by decide)))).trans (((zM_G hMξ (hYbξ _ (List.mem_of_getElem? (i := 5) rfl)) 0).trans (zM_F hMξ (hFbξ _ (List.mem_of_getElem? (i := 43) rfl)))))) ?_
          refine zp_load (pc := 63) hx hb (zd_X0_begin (63, .iload 5, 2, 0, []) (List.mem_of_getElem? (i := 34) rfl)) rfl (j := 0) rfl ?_
          refine zp_load (pc := 65) hx hb (zd_X0_begin (65, .iload 4, 2, 0, []) (List.mem_of_getElem? (i := 35) rfl)) rfl (j := 1) rfl ?_
          have hlr505ξ := zg_lawM (zM_setE hMξ (hYbξ _ (List.mem_of_getElem? (i := 46) rfl))) hYF0ξ (zV_scr hVξ (by decide)) (zAb_f (V' := V) (R' := (zRc V 7 53)) (M' := (zp_set M 68 (2000 + h9ξ) (zd_pw (zd_ru (zRc V 7 53) Lwξ t0ξ) t0ξ h9ξ))) hAbξ (fun o k h9ξ => (zp_set_ne (Or.inl (by rcases h9ξ with rfl | ⟨rfl, -⟩ <;> decide))).trans (rfl)) (fun o k h9ξ => rfl) ⟨rfl, rfl, rfl⟩) (pw := (zd_pw (zd_ru (zRc V 7 53) Lwξ t0ξ) t0ξ h9ξ)) (hrξ := (h9ξ : Int)) (p := (-1)) (o := (-1)) (l := (-1)) (by omega) (by omega) (by omega) (by omega) (by omega) (by rfl) (by rfl)
          refine zp_call (pc := 67) (how := 0) (idx := 42) (mi := 106) (S := [(0, (zd_pw (zd_ru (zRc V 7 53) Lwξ t0ξ) t0ξ h9ξ)), (0, 0)]) hx hb hEξ hwξ heffξ hrmξ (zX_ru_ hWξ (A 66) (fun j => (zp_set M 68 (2000 + h9ξ) (zd_pw (zd_ru (zRc V 7 53) Lwξ t0ξ) t0ξ h9ξ)) 66 (2000 + j)) (zg_ew (zRc V 7 53) zd_S0 t0ξ (zd_pw (zd_ru (zRc V 7 53) Lwξ t0ξ) t0ξ h9ξ) (h9ξ : Int) (-1)) Lwξ) rfl (j := 2) rfl rfl (by decide +kernel) (zd_X0_begin (67, .invokevirtual 42, 3, 0, []) (List.mem_of_getElem? (i := 36) rfl)) [(A 4 : Int), (h9ξ : Int), (zd_pw (zd_ru (zRc V 7 53) Lwξ t0ξ) t0ξ h9ξ)] rfl ⟨zp_o2 (zM_P hMξ (hYbξ _ (List.mem_of_getElem? (i := 4) rfl))), zp_o0 (by omega) (by omega) (by omega) (by omega), zp_o0 (by omega) (by omega) (by omega) (by omega), trivial⟩ (Nat.le_of_ble_eq_true rfl) hlr505ξ (fun al halξ rnr505ξ Pr505 Gr505 hextr505ξ hfrr505ξ hokr505ξ hcsr505ξ hpsir505ξ => ?_)
          obtain rfl := List.mem_singleton.mp halξ
          have hrr505ξ := zp_int (hokr505ξ _ rfl).1
          obtain ⟨hPer505ξ, hWnr505ξ, htr505ξ⟩ := hpsir505ξ
          obtain ⟨Mr505, hMr505ξ, hMkr505ξ, hM6r505ξ⟩ := zM_rul (zM_setE hMξ (hYbξ _ (List.mem_of_getElem? (i := 46) rfl))) hYF0ξ hfrr505ξ hextr505ξ
          subst hPer505ξ
          have hVr505ξ : ∀ o k, zNc o → Mr505 o k = V o k := fun o k hkξ => (hMkr505ξ o k (fun e => hkξ (by rw [e]; decide)) (fun e => hkξ (by rw [e]; decide))).trans ((zV_scr hVξ (by decide)) o k hkξ)
          have hAbr505ξ := zAb_n ((zAb_f (V' := V) (R' := (zRc V 7 53)) (M' := (zp_set M 68 (2000 + h9ξ) (zd_pw (zd_ru (zRc V 7 53) Lwξ t0ξ) t0ξ h9ξ))) hAbξ (fun o k h9ξ => (zp_set_ne (Or.inl (by rcases h9ξ with rfl | ⟨rfl, -⟩ <;> decide))).trans (rfl)) (fun o k h9ξ => rfl) ⟨rfl, rfl, rfl⟩)) (fun j => (hM6r505ξ (2000 + j)).trans (hWnr505ξ j)) hlr505ξ.1.2.2.2.2.1 (hMkr505ξ 4 2 (by decide) (by decide))
          clear hextr505ξ hfrr505ξ hokr505ξ hcsr505ξ hlr505ξ
          have htr505ξ : rnr505ξ = (zy_ru (zg_ew (zRc V 7 53) zd_S0 t0ξ (zd_pw (zd_ru (zRc V 7 53) Lwξ t0ξ) t0ξ h9ξ) (h9ξ : Int) (-1)) Lwξ) := htr505ξ
          have htr505ξ : rnr505ξ = (zd_ru (zRc V 7 53) Lwξ t0ξ (zd_pw (zd_ru (zRc V 7 53) Lwξ t0ξ) t0ξ h9ξ) h9ξ) := htr505ξ
          have htr505ξ := (Eq.symm htr505ξ)
          subst htr505ξ
          refine zp_sub (n := ((zd_pw (zd_ru (zRc V 7 53) Lwξ t0ξ) t0ξ h9ξ) - (zd_ru (zRc V 7 53) Lwξ t0ξ (zd_pw (zd_ru (zRc V 7 53) Lwξ t0ξ) t0ξ h9ξ) h9ξ))) (pc := 70) hx hb (zd_X0_begin (70, .isub, 1, 0, []) (List.mem_of_getElem? (i := 37) rfl)) (by omega) (zp_r0 (by omega) (by omega)) ?_
          refine zp_mm (n := (max 0 ((zd_pw (zd_ru (zRc V 7 53) Lwξ t0ξ) t0ξ h9ξ) - (zd_ru (zRc V 7 53) Lwξ t0ξ (zd_pw (zd_ru (zRc V 7 53) Lwξ t0ξ) t0ξ h9ξ) h9ξ)))) (S := []) (pc := 71) hx hb hEξ hrmξ (zd_X0_begin (71, .invokestatic 46, 3, 0, []) (List.mem_of_getElem? (i := 38) rfl)) (j := 23) rfl (Or.inl ⟨rfl, by omega⟩) ⟨by decide, Nat.le_of_ble_eq_true rfl⟩ ?_
          refine zp_store (L' := [(4, 0, (max 0 ((zd_pw (zd_ru (zRc V 7 53) Lwξ t0ξ) t0ξ h9ξ) - (zd_ru (zRc V 7 53) Lwξ t0ξ (zd_pw (zd_ru (zRc V 7 53) Lwξ t0ξ) t0ξ h9ξ) h9ξ)))), (5, 0, (h9ξ : Int)), (0, 2, (A 5 : Int)), (1, 2, (A 1 : Int)), (2, 2, (A 7 : Int)), (3, 0, t0ξ)]) (pc := 74) hx hb hnLξ (zd_X0_begin (74, .istore 4, 2, 0, []) (List.mem_of_getElem? (i := 39) rfl)) rfl rfl rfl ?_
          refine zp_iinc (L' := [(5, 0, ((h9ξ : Int) + 1)), (4, 0, (max 0 ((zd_pw (zd_ru (zRc V 7 53) Lwξ t0ξ) t0ξ h9ξ) - (zd_ru (zRc V 7 53) Lwξ t0ξ (zd_pw (zd_ru (zRc V 7 53) Lwξ t0ξ) t0ξ h9ξ) h9ξ)))), (0, 2, (A 5 : Int)), (1, 2, (A 1 : Int)), (2, 2, (A 7 : Int)), (3, 0, t0ξ)]) (n := ((h9ξ : Int) + 1)) (pc := 76) hx hb hnLξ (zd_X0_begin (76, .iinc 5 1, 3, 0, []) (List.mem_of_getElem? (i := 40) rfl)) (j := 1) rfl (by omega) (zp_r0 (by omega) (by omega)) rfl rfl ?_
          refine zp_goto (tgt := 35) (pc := 79) hx hb (zd_X0_begin (79, .goto (-44), 3, 0, []) (List.mem_of_getElem? (i := 41) rfl)) rfl ?_
          have hl9ξ : (max 0 ((zd_pw (zd_ru (zRc V 7 53) Lwξ t0ξ) t0ξ h9ξ) - (zd_ru (zRc V 7 53) Lwξ t0ξ (zd_pw (zd_ru (zRc V 7 53) Lwξ t0ξ) t0ξ h9ξ) h9ξ))) = (zd_pw (zd_ru (zRc V 7 53) Lwξ t0ξ) t0ξ (h9ξ + 1)) := by rw [hpw1ξ]; omega
          generalize hGq9ξ : Gr505 = Gq9
          rw [hl9ξ]
          subst hGq9ξ
          refine zp_drop (L' := [(5, 0, ((h9ξ : Int) + 1)), (4, 0, (zd_pw (zd_ru (zRc V 7 53) Lwξ t0ξ) t0ξ (h9ξ + 1))), (0, 2, (A 5 : Int)), (1, 2, (A 1 : Int)), (2, 2, (A 7 : Int)), (3, 0, t0ξ)]) (by simp) ?_
          refine ih (h9ξ + 1) Mr505 Gr505 (by omega) hMr505ξ hVr505ξ hAbr505ξ ((Eq.trans (hMkr505ξ 5 1 (by decide) (by decide)) ((zp_set_ne (Or.inl (by decide))).trans (h51ξ)))) ((Eq.trans (hMkr505ξ 5 2 (by decide) (by decide)) ((zp_set_ne (Or.inl (by decide))).trans (h52ξ)))) (fun h hhξ => ?_)
          by_cases e9ξ : h = h9ξ
          · rw [e9ξ]
            exact (hMkr505ξ 68 _ (by decide) (by decide)).trans zp_set_self
          · exact (hMkr505ξ 68 _ (by decide) (by decide)).trans ((zp_set_ne (Or.inr (by omega))).trans (hpwξ h (by omega)))
  refine zp_drop (L' := [(5, 0, 0), (4, 0, (t0ξ * 100)), (0, 2, (A 5 : Int)), (1, 2, (A 1 : Int)), (2, 2, (A 7 : Int)), (3, 0, t0ξ)]) (by simp) ?_
  have h00ξ : (t0ξ * 100) = zd_pw (zd_ru (zRc V 7 53) Lwξ t0ξ) t0ξ 0 := by
    show _ = 100 * t0ξ
    omega
  rw [h00ξ]
  exact loop 24 0 Mab Gab (by omega) hMabξ hVabξ hAbabξ hd51ξ hd52ξ (fun h hhξ => absurd hhξ (Nat.not_lt_zero h))
noncomputable def zK_psh8 : zk_K := (zt_mn 108, prog_2_method_5_code, 5, (Option.none : Option Jvm.ClassFile.FieldType), 1, 0, [(2, 0, 0, 0), (0, 0, (-2147483648), 2147483647)], [(none, [])], [(27, 1001, 0), (28, 1001, 0), (15, 1001, 0), (16, 1001, 0)], (4, 240, 0, 0))
noncomputable def zφ_psh8 (A : Nat → Nat) (Y : List (Nat × Nat)) (F : List (Nat × Nat × Nat)) (M : Nat → Nat → Int) (V : Nat → Nat → Int) (n1ξ npξ : Nat) (t0ξ : Int) (Lwξ : List yK) (h9ξ : Nat) : (Nat → Option Nat) → (Nat → Nat → Int) → List Int → Prop := fun P G ps => zM A Y F M P G ∧ ps.getD 0 0 = (A 5 : Int) ∧ zMc Y F ∧ (∀ o k, zNc o → M o k = V o k) ∧ zDst A Y F V Lwξ 8 56 t0ξ (zd_hr (zRc V 8 56) n1ξ npξ (zd_sp (zRc V 8 56) Lwξ t0ξ) (zd_ru (zRc V 8 56) Lwξ t0ξ) t0ξ h9ξ) M ∧ (ps.getD 1 0) = (h9ξ : Int) ∧ h9ξ < 24 ∧ zc_ok V 8 56 n1ξ npξ ∧ 0 ≤ t0ξ ∧ t0ξ ≤ 12
noncomputable def zψ_psh8 (A : Nat → Nat) (Y : List (Nat × Nat)) (F : List (Nat × Nat × Nat)) (M : Nat → Nat → Int) (V : Nat → Nat → Int) (n1ξ npξ : Nat) (t0ξ : Int) (Lwξ : List yK) (h9ξ : Nat) : (Nat → Option Nat) → (Nat → Nat → Int) → List Int → (Nat → Option Nat) → (Nat → Nat → Int) → Int → Prop := fun P G ps P' G' rn => P' = P ∧ ∃ M' : Nat → Nat → Int, zM A Y F M' P' G' ∧ (∀ o k, zNc o → M' o k = V o k) ∧ zDst A Y F V Lwξ 8 56 t0ξ (zd_hr (zRc V 8 56) n1ξ npξ (zd_sp (zRc V 8 56) Lwξ t0ξ) (zd_ru (zRc V 8 56) Lwξ t0ξ) t0ξ (h9ξ + 1)) M'
theorem zX_psh8 {l : Launch} {w : zk_W} (hWξ : zh_W w) (A : Nat → Nat) (Y : List (Nat × Nat)) (F : List (Nat × Nat × Nat)) (M : Nat → Nat → Int) (V : Nat → Nat → Int) (n1ξ npξ : Nat) (t0ξ : Int) (Lwξ : List yK) (h9ξ : Nat) : zk_metX l w zt_dv zt_TB zK_psh8 (zp_A (zφ_psh8 A Y F M V n1ξ npξ t0ξ Lwξ h9ξ)) (zp_B (zψ_psh8 A Y F M V n1ξ npξ t0ξ Lwξ h9ξ)) ∧ zk_cok w zt_TB zK_psh8 := by
  refine zp_methX (cn := "WoundTown$Day") zp_lkallDy hWξ (pl := 1011) rfl (by decide +kernel) (fun p e R s m args below meth c Q u hx hb hEξ hQξ hU5ξ heffξ hnLξ hokξ hφ => ?_)
  have hwξ := hWξ.1
  obtain ⟨p0ξ, p1ξ, hpsξ, tk0, tk1⟩ := zp_ps2 hokξ
  have hrmξ : zk_Kr (zk_ev (zt_types, zp_lkDy, zt_dv, [], [], zp_lcDy, zK_psh8)) = zk_Kr zK_psh8 := rfl
  rw [hpsξ] at hφ ⊢
  have hφ : zM A Y F M u.1 (zp_n u.2.1) ∧ p0ξ = (A 5 : Int) ∧ zMc Y F ∧ (∀ o k, zNc o → M o k = V o k) ∧ zDst A Y F V Lwξ 8 56 t0ξ (zd_hr (zRc V 8 56) n1ξ npξ (zd_sp (zRc V 8 56) Lwξ t0ξ) (zd_ru (zRc V 8 56) Lwξ t0ξ) t0ξ h9ξ) M ∧ p1ξ = (h9ξ : Int) ∧ h9ξ < 24 ∧ zc_ok V 8 56 n1ξ npξ ∧ 0 ≤ t0ξ ∧ t0ξ ≤ 12 := hφ
  obtain ⟨hMξ, rfl, hYFξ, hV0ξ, hDs0ξ, rfl, hh24ξ, hokξ, ht0ξ, ht12ξ⟩ := hφ
  have hYF0ξ := hYFξ
  obtain ⟨hYbξ, hFbξ, hFxξ, -⟩ := hYFξ
  have hi1ξ := zp_int tk1
  have hM00ξ := hMξ
  obtain ⟨hn10ξ, hnp6ξ, hn1ξ, hnpξ, hDwξ, hDpξ⟩ := hokξ.1
  have hn1ξ : V 1 3 = (n1ξ : Int) := hn1ξ
  have hnpξ : V 1 1 = (npξ : Int) := hnpξ
  have hpwbξ := zd_pwb (R := (zRc V 8 56)) (L := Lwξ) ht0ξ ht12ξ (h := h9ξ)
  obtain ⟨X0ξ, hX0ξ⟩ : ∃ X0ξ, X0ξ = zd_hr (zRc V 8 56) n1ξ npξ (zd_sp (zRc V 8 56) Lwξ t0ξ) (zd_ru (zRc V 8 56) Lwξ t0ξ) t0ξ h9ξ := ⟨_, rfl⟩
  rw [← hX0ξ] at hDs0ξ
  have hibξ : zc_ib (zRc V 8 56) n1ξ h9ξ X0ξ := by
    rw [hX0ξ]
    exact zc_ibh (fun w hwξ => (hDwξ w hwξ).2.2.1) hokξ.2
  have hXb0ξ : ∀ w, w < n1ξ → 0 ≤ X0ξ.1 w ∧ X0ξ.1 w ≤ 600 := fun w hwξ => by rw [hX0ξ]; exact zd_hrb hokξ.1 hwξ
  show zp_J p l e R s m args below meth c Q w u [] 0 [(0, 2, (A 5 : Int)), (1, 0, (h9ξ : Int))] [] u.1 (zp_n u.2.1)
  have loop : ∀ (r9ξ p9ξ : Nat) (M : Nat → Nat → Int) (G : Nat → Nat → Int), r9ξ + p9ξ = npξ → zM A Y F M u.1 G → (∀ o k, zNc o → M o k = V o k) → zDst A Y F V Lwξ 8 56 t0ξ (zd_hp (zRc V 8 56) (zd_rd (zRc V 8 56) X0ξ.1) n1ξ (zd_sp (zRc V 8 56) Lwξ t0ξ (zd_pw (zd_ru (zRc V 8 56) Lwξ t0ξ) t0ξ h9ξ) h9ξ) h9ξ X0ξ p9ξ) M → zp_J p l e R s m args below meth c Q w u [] 2 [(2, 0, (p9ξ : Int)), (0, 2, (A 5 : Int)), (1, 0, (h9ξ : Int))] [] u.1 G := by
    intro r9ξ
    induction r9ξ with
    | zero =>
      intro p9ξ M G hrξ hMξ hVξ hDsξ
      obtain ⟨hAbξ, ⟨h51ξ, h52ξ⟩, hpwξ, hXξ⟩ := hDsξ
      refine zp_load (pc := 2) hx hb (zd_X0_passHour (2, .iload_n 2, 1, 0, []) (List.mem_of_getElem? (i := 2) rfl)) rfl (j := 0) rfl ?_
      refine zp_load (pc := 3) hx hb (zd_X0_passHour (3, .aload_n 0, 1, 0, []) (List.mem_of_getElem? (i := 3) rfl)) rfl (j := 1) rfl ?_
      refine zp_getf (n := (A 1 : Int)) (pc := 4) hx hb hEξ hwξ (zd_X0_passHour (4, .getfield 25, 3, 0, []) (List.mem_of_getElem? (i := 4) rfl)) (j := 18) rfl rfl rfl (zM_P hMξ (hYbξ _ (List.mem_of_getElem? (i := 5) rfl))) ((zM_G hMξ (hYbξ _ (List.mem_of_getElem? (i := 5) rfl)) 1).trans h51ξ) ?_
      refine zp_getf (n := (npξ : Int)) (pc := 7) hx hb hEξ hwξ (zd_X0_passHour (7, .getfield 87, 3, 0, []) (List.mem_of_getElem? (i := 5) rfl)) (j := 4) rfl rfl rfl (zM_P hMξ (hYbξ _ (List.mem_of_getElem? (i := 1) rfl))) (((zM_G hMξ (hYbξ _ (List.mem_of_getElem? (i := 1) rfl)) 1).trans (hVξ 1 1 (by decide))).trans hnpξ) ?_
      refine zp_icmp (pc := 10) (tgt := 127) hx hb (zd_X0_passHour (10, .if_icmp .ge 117, 3, 0, []) (List.mem_of_getElem? (i := 6) rfl)) rfl (fun (hc508ξ : (npξ : Int) ≤ (p9ξ : Int)) => ?_) (fun (hc508ξ : ¬ ((npξ : Int) ≤ (p9ξ : Int))) => ?_)
      · obtain rfl : p9ξ = npξ := by omega
        refine zp_vret (pc := 127) hx hb hEξ hQξ hU5ξ rfl (by decide) (zd_X0_passHour (127, .return_, 1, 0, []) (List.mem_of_getElem? (i := 72) rfl)) (j := 0) rfl ?_
        rw [hpsξ]
        refine ⟨rfl, M, hMξ, ?_⟩
        exact ⟨hVξ, hAbξ, ⟨h51ξ, h52ξ⟩, hpwξ, by rw [zd_hr, ← hX0ξ]; exact hXξ⟩
      · exfalso
        omega
    | succ r9ξ ih =>
      intro p9ξ M G hrξ hMξ hVξ hDsξ
      obtain ⟨X, hXeξ⟩ : ∃ X, X = (zd_hp (zRc V 8 56) (zd_rd (zRc V 8 56) X0ξ.1) n1ξ (zd_sp (zRc V 8 56) Lwξ t0ξ (zd_pw (zd_ru (zRc V 8 56) Lwξ t0ξ) t0ξ h9ξ) h9ξ) h9ξ X0ξ p9ξ) := ⟨_, rfl⟩
      rw [← hXeξ] at hDsξ
      obtain ⟨hAbξ, ⟨h51ξ, h52ξ⟩, hpwξ, hXξ⟩ := hDsξ
      have hihξ : zc_ih (zRc V 8 56) n1ξ h9ξ X0ξ X := by
        rw [hXeξ]
        exact zc_ihp hibξ (fun w hwξ => (hDwξ w hwξ).2.2.1)
      have hXbξ : ∀ w, w < n1ξ → 0 ≤ X.1 w ∧ X.1 w ≤ 600 := fun w hwξ => by rw [hXeξ]; exact zd_hpb hokξ.1 hXb0ξ hwξ
      have hspbξ := zd_spb (R := (zRc V 8 56)) (L := Lwξ) (t := t0ξ) (pw := (zd_pw (zd_ru (zRc V 8 56) Lwξ t0ξ) t0ξ h9ξ)) (h := h9ξ) (p := p9ξ)
      refine zp_load (pc := 2) hx hb (zd_X0_passHour (2, .iload_n 2, 1, 0, []) (List.mem_of_getElem? (i := 2) rfl)) rfl (j := 0) rfl ?_
      refine zp_load (pc := 3) hx hb (zd_X0_passHour (3, .aload_n 0, 1, 0, []) (List.mem_of_getElem? (i := 3) rfl)) rfl (j := 1) rfl ?_
      refine zp_getf (n := (A 1 : Int)) (pc := 4) hx hb hEξ hwξ (zd_X0_passHour (4, .getfield 25, 3, 0, []) (List.mem_of_getElem? (i := 4) rfl)) (j := 18) rfl rfl rfl (zM_P hMξ (hYbξ _ (List.mem_of_getElem? (i := 5) rfl))) ((zM_G hMξ (hYbξ _ (List.mem_of_getElem? (i := 5) rfl)) 1).trans h51ξ) ?_
      refine zp_getf (n := (npξ : Int)) (pc := 7) hx hb hEξ hwξ (zd_X0_passHour (7, .getfield 87, 3, 0, []) (List.mem_of_getElem? (i := 5) rfl)) (j := 4) rfl rfl rfl (zM_P hMξ (hYbξ _ (List.mem_of_getElem? (i := 1) rfl))) (((zM_G hMξ (hYbξ _ (List.mem_of_getElem? (i := 1) rfl)) 1).trans (hVξ 1 1 (by decide))).trans hnpξ) ?_
      refine zp_icmp (pc := 10) (tgt := 127) hx hb (zd_X0_passHour (10, .if_icmp .ge 117, 3, 0, []) (List.mem_of_getElem? (i := 6) rfl)) rfl (fun (hc509ξ : (npξ : Int) ≤ (p9ξ : Int)) => ?_) (fun (hc509ξ : ¬ ((npξ : Int) ≤ (p9ξ : Int))) => ?_)
      · exfalso
        omega
      · refine zp_load (pc := 13) hx hb (zd_X0_passHour (13, .iload_n 2, 1, 0, []) (List.mem_of_getElem? (i := 7) rfl)) rfl (j := 0) rfl ?_
        refine zp_const (pc := 14) hx hb (zd_X0_passHour (14, .bipush 6, 2, 0, []) (List.mem_of_getElem? (i := 8) rfl)) rfl rfl ?_
        refine zp_icmp (pc := 16) (tgt := 127) hx hb (zd_X0_passHour (16, .if_icmp .ge 111, 3, 0, []) (List.mem_of_getElem? (i := 9) rfl)) rfl (fun (hc510ξ : 6 ≤ (p9ξ : Int)) => ?_) (fun (hc510ξ : ¬ (6 ≤ (p9ξ : Int))) => ?_)
        · exfalso
          omega
        · refine zp_load (pc := 19) hx hb (zd_X0_passHour (19, .aload_n 0, 1, 0, []) (List.mem_of_getElem? (i := 10) rfl)) rfl (j := 1) rfl ?_
          refine zp_load (pc := 20) hx hb (zd_X0_passHour (20, .iload_n 2, 1, 0, []) (List.mem_of_getElem? (i := 11) rfl)) rfl (j := 0) rfl ?_
          refine zp_load (pc := 21) hx hb (zd_X0_passHour (21, .iload_n 1, 1, 0, []) (List.mem_of_getElem? (i := 12) rfl)) rfl (j := 2) rfl ?_
          refine zp_call (pc := 22) (how := 0) (idx := 90) (mi := 109) (S := []) hx hb hEξ hwξ heffξ hrmξ (zX_wofd hWξ A Y F M V X n1ξ) rfl (j := 5) rfl rfl (by decide +kernel) (zd_X0_passHour (22, .invokevirtual 90, 3, 0, []) (List.mem_of_getElem? (i := 13) rfl)) [(A 5 : Int), (p9ξ : Int), (h9ξ : Int)] rfl ⟨zp_o2 (zM_P hMξ (hYbξ _ (List.mem_of_getElem? (i := 5) rfl))), zp_o0 (by omega) (by omega) (by omega) (by omega), zp_o0 (by omega) (by omega) (by omega) (by omega), trivial⟩ (Nat.le_of_ble_eq_true rfl) ⟨hMξ, rfl, hYF0ξ, hVξ, h51ξ, hXξ, hn1ξ, hn10ξ⟩ (fun al halξ rnq Pq Gq hextqξ hfrqξ hokqξ hcsqξ hpsiqξ => ?_)
          obtain rfl := List.mem_singleton.mp halξ
          have hrqξ := zp_int (hokqξ _ rfl).1
          obtain ⟨hPeqξ, hGeqξ, htqξ⟩ := hpsiqξ
          rw [hPeqξ, hGeqξ]
          clear hextqξ hfrqξ hcsqξ hPeqξ hGeqξ
          have htqξ : rnq = zd_pk (zRc V 8 56) (zd_rd (zRc V 8 56) X0ξ.1) X.1 p9ξ n1ξ 0 := Eq.trans htqξ (zc_woe hn1ξ hn10ξ hihξ (fun w hwξ => ⟨(hDwξ w hwξ).1, (hDwξ w hwξ).2.1⟩) (by omega))
          rcases zd_pk_r (R := (zRc V 8 56)) (D := zd_rd (zRc V 8 56) X0ξ.1) (W := X.1) (p := p9ξ) (k := n1ξ) (w := 0) with e9ξ | ⟨j9ξ, e9ξ, -, ej9, -, -, ej8⟩
          · have htqξ : rnq = -1 := (Eq.trans htqξ) e9ξ
            subst htqξ
            refine zp_store (L' := [(3, 0, (-1)), (2, 0, (p9ξ : Int)), (0, 2, (A 5 : Int)), (1, 0, (h9ξ : Int))]) (pc := 25) hx hb hnLξ (zd_X0_passHour (25, .istore_n 3, 1, 0, []) (List.mem_of_getElem? (i := 14) rfl)) rfl rfl rfl ?_
            refine zp_load (pc := 26) hx hb (zd_X0_passHour (26, .iload_n 3, 1, 0, []) (List.mem_of_getElem? (i := 15) rfl)) rfl (j := 0) rfl ?_
            refine zp_const (pc := 27) hx hb (zd_X0_passHour (27, .iconst (-1), 1, 0, []) (List.mem_of_getElem? (i := 16) rfl)) rfl rfl ?_
            refine zp_icmp (pc := 28) (tgt := 34) hx hb (zd_X0_passHour (28, .if_icmp .ne 6, 3, 0, []) (List.mem_of_getElem? (i := 17) rfl)) rfl (fun (hc511ξ : ¬ (-1 : Int) = (-1)) => ?_) (fun (hc511ξ : ¬ (¬ (-1 : Int) = (-1))) => ?_)
            · exfalso
              omega
            · refine zp_goto (tgt := 121) (pc := 31) hx hb (zd_X0_passHour (31, .goto 90, 3, 0, []) (List.mem_of_getElem? (i := 18) rfl)) rfl ?_
              refine zp_iinc (L' := [(2, 0, ((p9ξ : Int) + 1)), (3, 0, (-1)), (0, 2, (A 5 : Int)), (1, 0, (h9ξ : Int))]) (n := ((p9ξ : Int) + 1)) (pc := 121) hx hb hnLξ (zd_X0_passHour (121, .iinc 2 1, 3, 0, []) (List.mem_of_getElem? (i := 70) rfl)) (j := 1) rfl (by omega) (zp_r0 (by omega) (by omega)) rfl rfl ?_
              refine zp_goto (tgt := 2) (pc := 124) hx hb (zd_X0_passHour (124, .goto (-122), 3, 0, []) (List.mem_of_getElem? (i := 71) rfl)) rfl ?_
              refine zp_drop (L' := [(2, 0, ((p9ξ : Int) + 1)), (0, 2, (A 5 : Int)), (1, 0, (h9ξ : Int))]) (by simp) ?_
              refine ih (p9ξ + 1) M G (by omega) hMξ hVξ ⟨hAbξ, ⟨h51ξ, h52ξ⟩, hpwξ, ?_⟩
              rw [zd_hp, ← hXeξ]
              unfold zd_ps
              rw [if_pos e9ξ]
              exact hXξ
          · have htqξ : rnq = (j9ξ : Int) := (Eq.trans htqξ) e9ξ
            subst htqξ
            have hxb9ξ := hXbξ j9ξ (by omega)
            have hm1ξ : V 33 (2000 + j9ξ) = (zRc V 8 56) (5 * j9ξ + 40) := (zRc_w (i := 1) (by omega) (by omega)).symm
            have hmjξ := hDwξ j9ξ (by omega)
            rw [← hm1ξ] at hmjξ ej8
            refine zp_store (L' := [(3, 0, (j9ξ : Int)), (2, 0, (p9ξ : Int)), (0, 2, (A 5 : Int)), (1, 0, (h9ξ : Int))]) (pc := 25) hx hb hnLξ (zd_X0_passHour (25, .istore_n 3, 1, 0, []) (List.mem_of_getElem? (i := 14) rfl)) rfl rfl rfl ?_
            refine zp_load (pc := 26) hx hb (zd_X0_passHour (26, .iload_n 3, 1, 0, []) (List.mem_of_getElem? (i := 15) rfl)) rfl (j := 0) rfl ?_
            refine zp_const (pc := 27) hx hb (zd_X0_passHour (27, .iconst (-1), 1, 0, []) (List.mem_of_getElem? (i := 16) rfl)) rfl rfl ?_
            refine zp_icmp (pc := 28) (tgt := 34) hx hb (zd_X0_passHour (28, .if_icmp .ne 6, 3, 0, []) (List.mem_of_getElem? (i := 17) rfl)) rfl (fun (hc512ξ : ¬ (j9ξ : Int) = (-1)) => ?_) (fun (hc512ξ : ¬ (¬ (j9ξ : Int) = (-1))) => ?_)
            · refine zp_load (pc := 34) hx hb (zd_X0_passHour (34, .aload_n 0, 1, 0, []) (List.mem_of_getElem? (i := 19) rfl)) rfl (j := 2) rfl ?_
              refine zp_getf (n := (A 4 : Int)) (pc := 35) hx hb hEξ hwξ (zd_X0_passHour (35, .getfield 21, 3, 0, []) (List.mem_of_getElem? (i := 20) rfl)) (j := 17) rfl rfl rfl (zM_P hMξ (hYbξ _ (List.mem_of_getElem? (i := 5) rfl))) ((zM_G hMξ (hYbξ _ (List.mem_of_getElem? (i := 5) rfl)) 0).trans (zM_F hMξ (hFbξ _ (List.mem_of_getElem? (i := 43) rfl)))) ?_
              refine zp_load (pc := 38) hx hb (zd_X0_passHour (38, .iload_n 1, 1, 0, []) (List.mem_of_getElem? (i := 21) rfl)) rfl (j := 3) rfl ?_
              refine zp_load (pc := 39) hx hb (zd_X0_passHour (39, .aload_n 0, 1, 0, []) (List.mem_of_getElem? (i := 22) rfl)) rfl (j := 2) rfl ?_
              refine zp_getf (n := (A 68 : Int)) (pc := 40) hx hb hEξ hwξ (zd_X0_passHour (40, .getfield 9, 3, 0, []) (List.mem_of_getElem? (i := 23) rfl)) (j := 20) rfl rfl rfl (zM_P hMξ (hYbξ _ (List.mem_of_getElem? (i := 5) rfl))) ((zM_G hMξ (hYbξ _ (List.mem_of_getElem? (i := 5) rfl)) 3).trans (zM_F hMξ (hFbξ _ (List.mem_of_getElem? (i := 44) rfl)))) ?_
              refine zp_load (pc := 43) hx hb (zd_X0_passHour (43, .iload_n 1, 1, 0, []) (List.mem_of_getElem? (i := 24) rfl)) rfl (j := 3) rfl ?_
              refine zp_iald (j := h9ξ) (v := (zd_pw (zd_ru (zRc V 8 56) Lwξ t0ξ) t0ξ h9ξ)) (pc := 44) hx hb hwξ (zd_X0_passHour (44, .iaload, 1, 0, []) (List.mem_of_getElem? (i := 25) rfl)) (show zp_ia 1 14 = some (24, 0, 0, (-2147483648), 2147483647) from rfl) (zM_P hMξ (hYbξ _ (List.mem_of_getElem? (i := 46) rfl))) (by omega) (by omega) ((zM_G hMξ (hYbξ _ (List.mem_of_getElem? (i := 46) rfl)) (2000 + h9ξ)).trans (hpwξ h9ξ (by omega))) (fun hk513ξ => ?_)
              have hk513bξ := zp_int hk513ξ
              clear hk513ξ
              refine zp_load (pc := 45) hx hb (zd_X0_passHour (45, .iload_n 2, 1, 0, []) (List.mem_of_getElem? (i := 26) rfl)) rfl (j := 1) rfl ?_
              refine zp_load (pc := 46) hx hb (zd_X0_passHour (46, .aload_n 0, 1, 0, []) (List.mem_of_getElem? (i := 27) rfl)) rfl (j := 2) rfl ?_
              refine zp_getf (n := (A 8 : Int)) (pc := 47) hx hb hEξ hwξ (zd_X0_passHour (47, .getfield 35, 3, 0, []) (List.mem_of_getElem? (i := 28) rfl)) (j := 19) rfl rfl rfl (zM_P hMξ (hYbξ _ (List.mem_of_getElem? (i := 5) rfl))) ((zM_G hMξ (hYbξ _ (List.mem_of_getElem? (i := 5) rfl)) 2).trans h52ξ) ?_
              refine zp_getf (n := (A 56 : Int)) (pc := 50) hx hb hEξ hwξ (zd_X0_passHour (50, .getfield 93, 3, 0, []) (List.mem_of_getElem? (i := 29) rfl)) (j := 0) rfl rfl rfl (zM_P hMξ (hYbξ _ (List.mem_of_getElem? (i := 8) rfl))) ((zM_G hMξ (hYbξ _ (List.mem_of_getElem? (i := 8) rfl)) 0).trans (zM_F hMξ (hFbξ _ (List.mem_of_getElem? (i := 31) rfl)))) ?_
              refine zp_load (pc := 53) hx hb (zd_X0_passHour (53, .iload_n 2, 1, 0, []) (List.mem_of_getElem? (i := 30) rfl)) rfl (j := 1) rfl ?_
              refine zp_iald (j := p9ξ) (v := (V 56 (2000 + p9ξ))) (pc := 54) hx hb hwξ (zd_X0_passHour (54, .iaload, 1, 0, []) (List.mem_of_getElem? (i := 31) rfl)) (show zp_ia 1 17 = some (6, 0, 0, (-2147483648), 2147483647) from rfl) (zM_P hMξ (hYbξ _ (List.mem_of_getElem? (i := 34) rfl))) (by omega) (by omega) ((zM_G hMξ (hYbξ _ (List.mem_of_getElem? (i := 34) rfl)) (2000 + p9ξ)).trans (hVξ 56 (2000 + p9ξ) (by decide))) (fun hk514ξ => ?_)
              have hk514bξ := zp_int hk514ξ
              clear hk514ξ
              refine zp_load (pc := 55) hx hb (zd_X0_passHour (55, .aload_n 0, 1, 0, []) (List.mem_of_getElem? (i := 32) rfl)) rfl (j := 2) rfl ?_
              refine zp_getf (n := (A 8 : Int)) (pc := 56) hx hb hEξ hwξ (zd_X0_passHour (56, .getfield 35, 3, 0, []) (List.mem_of_getElem? (i := 33) rfl)) (j := 19) rfl rfl rfl (zM_P hMξ (hYbξ _ (List.mem_of_getElem? (i := 5) rfl))) ((zM_G hMξ (hYbξ _ (List.mem_of_getElem? (i := 5) rfl)) 2).trans h52ξ) ?_
              refine zp_getf (n := (A 57 : Int)) (pc := 59) hx hb hEξ hwξ (zd_X0_passHour (59, .getfield 96, 3, 0, []) (List.mem_of_getElem? (i := 34) rfl)) (j := 1) rfl rfl rfl (zM_P hMξ (hYbξ _ (List.mem_of_getElem? (i := 8) rfl))) ((zM_G hMξ (hYbξ _ (List.mem_of_getElem? (i := 8) rfl)) 1).trans (zM_F hMξ (hFbξ _ (List.mem_of_getElem? (i := 32) rfl)))) ?_
              refine zp_load (pc := 62) hx hb (zd_X0_passHour (62, .iload_n 2, 1, 0, []) (List.mem_of_getElem? (i := 35) rfl)) rfl (j := 1) rfl ?_
              refine zp_iald (j := p9ξ) (v := (V 57 (2000 + p9ξ))) (pc := 63) hx hb hwξ (zd_X0_passHour (63, .iaload, 1, 0, []) (List.mem_of_getElem? (i := 36) rfl)) (show zp_ia 1 18 = some (6, 0, 0, 0, 45) from rfl) (zM_P hMξ (hYbξ _ (List.mem_of_getElem? (i := 35) rfl))) (by omega) (by omega) ((zM_G hMξ (hYbξ _ (List.mem_of_getElem? (i := 35) rfl)) (2000 + p9ξ)).trans (hVξ 57 (2000 + p9ξ) (by decide))) (fun hk515ξ => ?_)
              have hk515bξ := zp_int hk515ξ
              clear hk515ξ
              have hlr516ξ := zg_lawM hMξ hYF0ξ hVξ hAbξ (pw := (zd_pw (zd_ru (zRc V 8 56) Lwξ t0ξ) t0ξ h9ξ)) (hrξ := (h9ξ : Int)) (p := (p9ξ : Int)) (o := (V 56 (2000 + p9ξ))) (l := (V 57 (2000 + p9ξ))) (by omega) (by omega) (by omega) (by omega) (by omega) (zc_po (g := 8) (b := 56) (by omega)) (zc_pl9 (g := 8) (b := 56) (by omega))
              refine zp_call (pc := 64) (how := 0) (idx := 99) (mi := 111) (S := []) hx hb hEξ hwξ heffξ hrmξ (zX_sp_ hWξ (A 66) (fun j => M 66 (2000 + j)) (zg_ew (zRc V 8 56) zd_S0 t0ξ (zd_pw (zd_ru (zRc V 8 56) Lwξ t0ξ) t0ξ h9ξ) (h9ξ : Int) (p9ξ : Int)) Lwξ) rfl (j := 8) rfl rfl (by decide +kernel) (zd_X0_passHour (64, .invokevirtual 99, 3, 0, []) (List.mem_of_getElem? (i := 37) rfl)) [(A 4 : Int), (h9ξ : Int), (zd_pw (zd_ru (zRc V 8 56) Lwξ t0ξ) t0ξ h9ξ), (p9ξ : Int), (V 56 (2000 + p9ξ)), (V 57 (2000 + p9ξ))] rfl ⟨zp_o2 (zM_P hMξ (hYbξ _ (List.mem_of_getElem? (i := 4) rfl))), zp_o0 (by omega) (by omega) (by omega) (by omega), zp_o0 (by omega) (by omega) (by omega) (by omega), zp_o0 (by omega) (by omega) (by omega) (by omega), zp_o0 (by omega) (by omega) (by omega) (by omega), zp_o0 (by omega) (by omega) (by omega) (by omega), trivial⟩ (Nat.le_of_ble_eq_true rfl) hlr516ξ (fun al halξ rnr516ξ Pr516 Gr516 hextr516ξ hfrr516ξ hokr516ξ hcsr516ξ hpsir516ξ => ?_)
              obtain rfl := List.mem_singleton.mp halξ
              have hrr516ξ := zp_int (hokr516ξ _ rfl).1
              obtain ⟨hPer516ξ, hWnr516ξ, htr516ξ⟩ := hpsir516ξ
              obtain ⟨Mr516, hMr516ξ, hMkr516ξ, hM6r516ξ⟩ := zM_rul hMξ hYF0ξ hfrr516ξ hextr516ξ
              subst hPer516ξ
              have hVr516ξ : ∀ o k, zNc o → Mr516 o k = V o k := fun o k hkξ => (hMkr516ξ o k (fun e => hkξ (by rw [e]; decide)) (fun e => hkξ (by rw [e]; decide))).trans (hVξ o k hkξ)
              have hAbr516ξ := zAb_n (hAbξ) (fun j => (hM6r516ξ (2000 + j)).trans (hWnr516ξ j)) hlr516ξ.1.2.2.2.2.1 (hMkr516ξ 4 2 (by decide) (by decide))
              clear hextr516ξ hfrr516ξ hokr516ξ hcsr516ξ hlr516ξ
              have htr516ξ : rnr516ξ = (zy_sp (zg_ew (zRc V 8 56) zd_S0 t0ξ (zd_pw (zd_ru (zRc V 8 56) Lwξ t0ξ) t0ξ h9ξ) (h9ξ : Int) (p9ξ : Int)) Lwξ (zd_pw (zd_ru (zRc V 8 56) Lwξ t0ξ) t0ξ h9ξ) (V 57 (2000 + p9ξ))) := htr516ξ
              have htr516ξ : rnr516ξ = (zd_sp (zRc V 8 56) Lwξ t0ξ (zd_pw (zd_ru (zRc V 8 56) Lwξ t0ξ) t0ξ h9ξ) h9ξ p9ξ) := by
                rw [htr516ξ]
                unfold zd_sp
                rw [zRc_l (show p9ξ < 6 by omega)]
              have htr516ξ := (Eq.symm htr516ξ)
              subst htr516ξ
              refine zp_store (L' := [(4, 0, (zd_sp (zRc V 8 56) Lwξ t0ξ (zd_pw (zd_ru (zRc V 8 56) Lwξ t0ξ) t0ξ h9ξ) h9ξ p9ξ)), (3, 0, (j9ξ : Int)), (2, 0, (p9ξ : Int)), (0, 2, (A 5 : Int)), (1, 0, (h9ξ : Int))]) (pc := 67) hx hb hnLξ (zd_X0_passHour (67, .istore 4, 2, 0, []) (List.mem_of_getElem? (i := 38) rfl)) rfl rfl rfl ?_
              refine zp_load (pc := 69) hx hb (zd_X0_passHour (69, .aload_n 0, 1, 0, []) (List.mem_of_getElem? (i := 39) rfl)) rfl (j := 3) rfl ?_
              refine zp_getf (n := (A 69 : Int)) (pc := 70) hx hb hEξ hwξ (zd_X0_passHour (70, .getfield 15, 3, 0, []) (List.mem_of_getElem? (i := 40) rfl)) (j := 21) rfl rfl rfl (zM_P hMr516ξ (hYbξ _ (List.mem_of_getElem? (i := 5) rfl))) ((zM_G hMr516ξ (hYbξ _ (List.mem_of_getElem? (i := 5) rfl)) 4).trans (zM_F hMr516ξ (hFbξ _ (List.mem_of_getElem? (i := 45) rfl)))) ?_
              refine zp_load (pc := 73) hx hb (zd_X0_passHour (73, .iload_n 3, 1, 0, []) (List.mem_of_getElem? (i := 41) rfl)) rfl (j := 1) rfl ?_
              refine zp_load (pc := 74) hx hb (zd_X0_passHour (74, .aload_n 0, 1, 0, []) (List.mem_of_getElem? (i := 42) rfl)) rfl (j := 3) rfl ?_
              refine zp_getf (n := (A 1 : Int)) (pc := 75) hx hb hEξ hwξ (zd_X0_passHour (75, .getfield 25, 3, 0, []) (List.mem_of_getElem? (i := 43) rfl)) (j := 18) rfl rfl rfl (zM_P hMr516ξ (hYbξ _ (List.mem_of_getElem? (i := 5) rfl))) ((zM_G hMr516ξ (hYbξ _ (List.mem_of_getElem? (i := 5) rfl)) 1).trans (Eq.trans (hMkr516ξ 5 1 (by decide) (by decide)) h51ξ)) ?_
              refine zp_getf (n := (A 33 : Int)) (pc := 78) hx hb hEξ hwξ (zd_X0_passHour (78, .getfield 103, 3, 0, []) (List.mem_of_getElem? (i := 44) rfl)) (j := 7) rfl rfl rfl (zM_P hMr516ξ (hYbξ _ (List.mem_of_getElem? (i := 1) rfl))) ((zM_G hMr516ξ (hYbξ _ (List.mem_of_getElem? (i := 1) rfl)) 5).trans (zM_F hMr516ξ (hFbξ _ (List.mem_of_getElem? (i := 16) rfl)))) ?_
              refine zp_load (pc := 81) hx hb (zd_X0_passHour (81, .iload_n 3, 1, 0, []) (List.mem_of_getElem? (i := 45) rfl)) rfl (j := 1) rfl ?_
              refine zp_iald (j := j9ξ) (v := (V 33 (2000 + j9ξ))) (pc := 82) hx hb hwξ (zd_X0_passHour (82, .iaload, 1, 0, []) (List.mem_of_getElem? (i := 46) rfl)) (show zp_ia 1 45 = some (10, 0, 0, (-2147483648), 2147483647) from rfl) (zM_P hMr516ξ (hYbξ _ (List.mem_of_getElem? (i := 20) rfl))) (by omega) (by omega) ((zM_G hMr516ξ (hYbξ _ (List.mem_of_getElem? (i := 20) rfl)) (2000 + j9ξ)).trans (hVr516ξ 33 (2000 + j9ξ) (by decide))) (fun hk517ξ => ?_)
              have hk517bξ := zp_int hk517ξ
              clear hk517ξ
              refine zp_load (pc := 83) hx hb (zd_X0_passHour (83, .aload_n 0, 1, 0, []) (List.mem_of_getElem? (i := 47) rfl)) rfl (j := 3) rfl ?_
              refine zp_getf (n := (A 69 : Int)) (pc := 84) hx hb hEξ hwξ (zd_X0_passHour (84, .getfield 15, 3, 0, []) (List.mem_of_getElem? (i := 48) rfl)) (j := 21) rfl rfl rfl (zM_P hMr516ξ (hYbξ _ (List.mem_of_getElem? (i := 5) rfl))) ((zM_G hMr516ξ (hYbξ _ (List.mem_of_getElem? (i := 5) rfl)) 4).trans (zM_F hMr516ξ (hFbξ _ (List.mem_of_getElem? (i := 45) rfl)))) ?_
              refine zp_load (pc := 87) hx hb (zd_X0_passHour (87, .iload_n 3, 1, 0, []) (List.mem_of_getElem? (i := 49) rfl)) rfl (j := 1) rfl ?_
              refine zp_iald (j := j9ξ) (v := (X.1 j9ξ)) (pc := 88) hx hb hwξ (zd_X0_passHour (88, .iaload, 1, 0, []) (List.mem_of_getElem? (i := 50) rfl)) (show zp_ia 1 15 = some (10, 0, 0, (-2147483648), 2147483647) from rfl) (zM_P hMr516ξ (hYbξ _ (List.mem_of_getElem? (i := 47) rfl))) (by omega) (by omega) ((zM_G hMr516ξ (hYbξ _ (List.mem_of_getElem? (i := 47) rfl)) (2000 + j9ξ)).trans (Eq.trans (hMkr516ξ 69 (2000 + j9ξ) (by decide) (by decide)) (hXξ j9ξ (by omega)).1)) (fun hk518ξ => ?_)
              have hk518bξ := zp_int hk518ξ
              clear hk518ξ
              refine zp_load (pc := 89) hx hb (zd_X0_passHour (89, .iload 4, 2, 0, []) (List.mem_of_getElem? (i := 51) rfl)) rfl (j := 0) rfl ?_
              refine zp_add (n := ((X.1 j9ξ) + (zd_sp (zRc V 8 56) Lwξ t0ξ (zd_pw (zd_ru (zRc V 8 56) Lwξ t0ξ) t0ξ h9ξ) h9ξ p9ξ))) (pc := 91) hx hb (zd_X0_passHour (91, .iadd, 1, 0, []) (List.mem_of_getElem? (i := 52) rfl)) (by omega) (zp_r0 (by omega) (by omega)) ?_
              refine zp_mm (n := (min (V 33 (2000 + j9ξ)) ((X.1 j9ξ) + (zd_sp (zRc V 8 56) Lwξ t0ξ (zd_pw (zd_ru (zRc V 8 56) Lwξ t0ξ) t0ξ h9ξ) h9ξ p9ξ)))) (S := [(0, (j9ξ : Int)), (2, (A 69 : Int))]) (pc := 92) hx hb hEξ hrmξ (zd_X0_passHour (92, .invokestatic 106, 3, 0, []) (List.mem_of_getElem? (i := 53) rfl)) (j := 25) rfl (Or.inr ⟨rfl, by omega⟩) ⟨by decide, Nat.le_of_ble_eq_true rfl⟩ ?_
              refine zp_iast (j := j9ξ) (pc := 95) hx hb hwξ heffξ (zd_X0_passHour (95, .iastore, 1, 0, []) (List.mem_of_getElem? (i := 54) rfl)) (show zp_ia 1 15 = some (10, 0, 0, (-2147483648), 2147483647) from rfl) (zM_P hMr516ξ (hYbξ _ (List.mem_of_getElem? (i := 47) rfl))) (by omega) (by omega) (zp_o0 (by omega) (by omega) (by omega) (by omega)) rfl ?_
              refine zp_load (pc := 96) hx hb (zd_X0_passHour (96, .aload_n 0, 1, 0, []) (List.mem_of_getElem? (i := 55) rfl)) rfl (j := 3) rfl ?_
              refine zp_getf (n := (A 69 : Int)) (pc := 97) hx hb hEξ hwξ (zd_X0_passHour (97, .getfield 15, 3, 0, []) (List.mem_of_getElem? (i := 56) rfl)) (j := 21) rfl rfl rfl (zM_P hMr516ξ (hYbξ _ (List.mem_of_getElem? (i := 5) rfl))) ((zp_set_ne (Or.inl (zM_ne hMr516ξ (hYbξ _ (List.mem_of_getElem? (i := 5) rfl)) (hYbξ _ (List.mem_of_getElem? (i := 47) rfl)) (by decide)))).trans (((zM_G hMr516ξ (hYbξ _ (List.mem_of_getElem? (i := 5) rfl)) 4).trans (zM_F hMr516ξ (hFbξ _ (List.mem_of_getElem? (i := 45) rfl)))))) ?_
              refine zp_load (pc := 100) hx hb (zd_X0_passHour (100, .iload_n 3, 1, 0, []) (List.mem_of_getElem? (i := 57) rfl)) rfl (j := 1) rfl ?_
              refine zp_iald (j := j9ξ) (v := (min (V 33 (2000 + j9ξ)) ((X.1 j9ξ) + (zd_sp (zRc V 8 56) Lwξ t0ξ (zd_pw (zd_ru (zRc V 8 56) Lwξ t0ξ) t0ξ h9ξ) h9ξ p9ξ)))) (pc := 101) hx hb hwξ (zd_X0_passHour (101, .iaload, 1, 0, []) (List.mem_of_getElem? (i := 58) rfl)) (show zp_ia 1 15 = some (10, 0, 0, (-2147483648), 2147483647) from rfl) (zM_P hMr516ξ (hYbξ _ (List.mem_of_getElem? (i := 47) rfl))) (by omega) (by omega) zp_set_self (fun hk519ξ => ?_)
              have hk519bξ := zp_int hk519ξ
              clear hk519ξ
              refine zp_load (pc := 102) hx hb (zd_X0_passHour (102, .aload_n 0, 1, 0, []) (List.mem_of_getElem? (i := 59) rfl)) rfl (j := 3) rfl ?_
              refine zp_getf (n := (A 1 : Int)) (pc := 103) hx hb hEξ hwξ (zd_X0_passHour (103, .getfield 25, 3, 0, []) (List.mem_of_getElem? (i := 60) rfl)) (j := 18) rfl rfl rfl (zM_P hMr516ξ (hYbξ _ (List.mem_of_getElem? (i := 5) rfl))) ((zp_set_ne (Or.inl (zM_ne hMr516ξ (hYbξ _ (List.mem_of_getElem? (i := 5) rfl)) (hYbξ _ (List.mem_of_getElem? (i := 47) rfl)) (by decide)))).trans (((zM_G hMr516ξ (hYbξ _ (List.mem_of_getElem? (i := 5) rfl)) 1).trans (Eq.trans (hMkr516ξ 5 1 (by decide) (by decide)) h51ξ)))) ?_
              refine zp_getf (n := (A 33 : Int)) (pc := 106) hx hb hEξ hwξ (zd_X0_passHour (106, .getfield 103, 3, 0, []) (List.mem_of_getElem? (i := 61) rfl)) (j := 7) rfl rfl rfl (zM_P hMr516ξ (hYbξ _ (List.mem_of_getElem? (i := 1) rfl))) ((zp_set_ne (Or.inl (zM_ne hMr516ξ (hYbξ _ (List.mem_of_getElem? (i := 1) rfl)) (hYbξ _ (List.mem_of_getElem? (i := 47) rfl)) (by decide)))).trans (((zM_G hMr516ξ (hYbξ _ (List.mem_of_getElem? (i := 1) rfl)) 5).trans (zM_F hMr516ξ (hFbξ _ (List.mem_of_getElem? (i := 16) rfl)))))) ?_
              refine zp_load (pc := 109) hx hb (zd_X0_passHour (109, .iload_n 3, 1, 0, []) (List.mem_of_getElem? (i := 62) rfl)) rfl (j := 1) rfl ?_
              refine zp_iald (j := j9ξ) (v := (V 33 (2000 + j9ξ))) (pc := 110) hx hb hwξ (zd_X0_passHour (110, .iaload, 1, 0, []) (List.mem_of_getElem? (i := 63) rfl)) (show zp_ia 1 45 = some (10, 0, 0, (-2147483648), 2147483647) from rfl) (zM_P hMr516ξ (hYbξ _ (List.mem_of_getElem? (i := 20) rfl))) (by omega) (by omega) ((zp_set_ne (Or.inl (zM_ne hMr516ξ (hYbξ _ (List.mem_of_getElem? (i := 20) rfl)) (hYbξ _ (List.mem_of_getElem? (i := 47) rfl)) (by decide)))).trans (((zM_G hMr516ξ (hYbξ _ (List.mem_of_getElem? (i := 20) rfl)) (2000 + j9ξ)).trans (hVr516ξ 33 (2000 + j9ξ) (by decide))))) (fun hk520ξ => ?_)
              have hk520bξ := zp_int hk520ξ
              clear hk520ξ
              refine zp_icmp (pc := 111) (tgt := 121) hx hb (zd_X0_passHour (111, .if_icmp .ne 10, 3, 0, []) (List.mem_of_getElem? (i := 64) rfl)) rfl (fun (hc521ξ : ¬ (min (V 33 (2000 + j9ξ)) ((X.1 j9ξ) + (zd_sp (zRc V 8 56) Lwξ t0ξ (zd_pw (zd_ru (zRc V 8 56) Lwξ t0ξ) t0ξ h9ξ) h9ξ p9ξ))) = (V 33 (2000 + j9ξ))) => ?_) (fun (hc521ξ : ¬ (¬ (min (V 33 (2000 + j9ξ)) ((X.1 j9ξ) + (zd_sp (zRc V 8 56) Lwξ t0ξ (zd_pw (zd_ru (zRc V 8 56) Lwξ t0ξ) t0ξ h9ξ) h9ξ p9ξ))) = (V 33 (2000 + j9ξ)))) => ?_)
              · refine zp_iinc (L' := [(2, 0, ((p9ξ : Int) + 1)), (4, 0, (zd_sp (zRc V 8 56) Lwξ t0ξ (zd_pw (zd_ru (zRc V 8 56) Lwξ t0ξ) t0ξ h9ξ) h9ξ p9ξ)), (3, 0, (j9ξ : Int)), (0, 2, (A 5 : Int)), (1, 0, (h9ξ : Int))]) (n := ((p9ξ : Int) + 1)) (pc := 121) hx hb hnLξ (zd_X0_passHour (121, .iinc 2 1, 3, 0, []) (List.mem_of_getElem? (i := 70) rfl)) (j := 2) rfl (by omega) (zp_r0 (by omega) (by omega)) rfl rfl ?_
                refine zp_goto (tgt := 2) (pc := 124) hx hb (zd_X0_passHour (124, .goto (-122), 3, 0, []) (List.mem_of_getElem? (i := 71) rfl)) rfl ?_
                refine zp_drop (L' := [(2, 0, ((p9ξ : Int) + 1)), (0, 2, (A 5 : Int)), (1, 0, (h9ξ : Int))]) (by simp) ?_
                refine ih (p9ξ + 1) (zp_set Mr516 69 (2000 + j9ξ) (min (V 33 (2000 + j9ξ)) ((X.1 j9ξ) + (zd_sp (zRc V 8 56) Lwξ t0ξ (zd_pw (zd_ru (zRc V 8 56) Lwξ t0ξ) t0ξ h9ξ) h9ξ p9ξ)))) (zp_set Gr516 (A 69) (2000 + j9ξ) (min (V 33 (2000 + j9ξ)) ((X.1 j9ξ) + (zd_sp (zRc V 8 56) Lwξ t0ξ (zd_pw (zd_ru (zRc V 8 56) Lwξ t0ξ) t0ξ h9ξ) h9ξ p9ξ)))) (by omega) (zM_setE hMr516ξ (hYbξ _ (List.mem_of_getElem? (i := 47) rfl))) (zV_scr hVr516ξ (by decide)) ⟨(zAb_f (V' := V) (R' := (zRc V 8 56)) (M' := (zp_set Mr516 69 (2000 + j9ξ) (min (V 33 (2000 + j9ξ)) ((X.1 j9ξ) + (zd_sp (zRc V 8 56) Lwξ t0ξ (zd_pw (zd_ru (zRc V 8 56) Lwξ t0ξ) t0ξ h9ξ) h9ξ p9ξ))))) hAbr516ξ (fun o k h9ξ => (zp_set_ne (Or.inl (by rcases h9ξ with rfl | ⟨rfl, -⟩ <;> decide))).trans (rfl)) (fun o k h9ξ => rfl) ⟨rfl, rfl, rfl⟩), ⟨((zp_set_ne (Or.inl (by decide))).trans ((Eq.trans (hMkr516ξ 5 1 (by decide) (by decide)) h51ξ))), ((zp_set_ne (Or.inl (by decide))).trans ((Eq.trans (hMkr516ξ 5 2 (by decide) (by decide)) h52ξ)))⟩, fun h hhξ => (zp_set_ne (Or.inl (by decide))).trans ((hMkr516ξ 68 _ (by decide) (by decide)).trans (hpwξ h hhξ)), ?_⟩
                have hX9ξ : zDX X Mr516 := fun w hwξ => ⟨(hMkr516ξ 69 _ (by decide) (by decide)).trans (hXξ w hwξ).1, (hMkr516ξ 70 _ (by decide) (by decide)).trans (hXξ w hwξ).2⟩
                rw [zd_hp, ← hXeξ]
                unfold zd_ps
                rw [if_neg (by omega), e9ξ, Int.toNat_natCast, ← hm1ξ]
                intro w hwξ
                by_cases e8 : w = j9ξ
                · rw [e8]
                  have h4ξ := (hihξ j9ξ (by omega)).2.2.2 (by rw [← hm1ξ]; omega)
                  exact ⟨zp_set_self.trans (Eq.trans (by omega) (yu_at).symm), (zp_set_ne (Or.inl (by decide))).trans ((hX9ξ j9ξ (by omega)).2.trans ((Eq.trans h4ξ) (Eq.trans (if_neg (by omega)).symm (yu_at).symm)))⟩
                · exact ⟨(zp_set_ne (Or.inr (by omega))).trans (((hX9ξ w hwξ).1.trans (yu_ne e8).symm)), (zp_set_ne (Or.inl (by decide))).trans (((hX9ξ w hwξ).2.trans (yu_ne e8).symm))⟩
              · refine zp_load (pc := 114) hx hb (zd_X0_passHour (114, .aload_n 0, 1, 0, []) (List.mem_of_getElem? (i := 65) rfl)) rfl (j := 3) rfl ?_
                refine zp_getf (n := (A 70 : Int)) (pc := 115) hx hb hEξ hwξ (zd_X0_passHour (115, .getfield 18, 3, 0, []) (List.mem_of_getElem? (i := 66) rfl)) (j := 22) rfl rfl rfl (zM_P hMr516ξ (hYbξ _ (List.mem_of_getElem? (i := 5) rfl))) ((zp_set_ne (Or.inl (zM_ne hMr516ξ (hYbξ _ (List.mem_of_getElem? (i := 5) rfl)) (hYbξ _ (List.mem_of_getElem? (i := 47) rfl)) (by decide)))).trans (((zM_G hMr516ξ (hYbξ _ (List.mem_of_getElem? (i := 5) rfl)) 5).trans (zM_F hMr516ξ (hFbξ _ (List.mem_of_getElem? (i := 46) rfl)))))) ?_
                refine zp_load (pc := 118) hx hb (zd_X0_passHour (118, .iload_n 3, 1, 0, []) (List.mem_of_getElem? (i := 67) rfl)) rfl (j := 1) rfl ?_
                refine zp_load (pc := 119) hx hb (zd_X0_passHour (119, .iload_n 1, 1, 0, []) (List.mem_of_getElem? (i := 68) rfl)) rfl (j := 4) rfl ?_
                refine zp_iast (j := j9ξ) (pc := 120) hx hb hwξ heffξ (zd_X0_passHour (120, .iastore, 1, 0, []) (List.mem_of_getElem? (i := 69) rfl)) (show zp_ia 1 16 = some (10, 0, 0, (-2147483648), 2147483647) from rfl) (zM_P hMr516ξ (hYbξ _ (List.mem_of_getElem? (i := 48) rfl))) (by omega) (by omega) (zp_o0 (by omega) (by omega) (by omega) (by omega)) rfl ?_
                refine zp_iinc (L' := [(2, 0, ((p9ξ : Int) + 1)), (4, 0, (zd_sp (zRc V 8 56) Lwξ t0ξ (zd_pw (zd_ru (zRc V 8 56) Lwξ t0ξ) t0ξ h9ξ) h9ξ p9ξ)), (3, 0, (j9ξ : Int)), (0, 2, (A 5 : Int)), (1, 0, (h9ξ : Int))]) (n := ((p9ξ : Int) + 1)) (pc := 121) hx hb hnLξ (zd_X0_passHour (121, .iinc 2 1, 3, 0, []) (List.mem_of_getElem? (i := 70) rfl)) (j := 2) rfl (by omega) (zp_r0 (by omega) (by omega)) rfl rfl ?_
                refine zp_goto (tgt := 2) (pc := 124) hx hb (zd_X0_passHour (124, .goto (-122), 3, 0, []) (List.mem_of_getElem? (i := 71) rfl)) rfl ?_
                refine zp_drop (L' := [(2, 0, ((p9ξ : Int) + 1)), (0, 2, (A 5 : Int)), (1, 0, (h9ξ : Int))]) (by simp) ?_
                refine ih (p9ξ + 1) (zp_set (zp_set Mr516 69 (2000 + j9ξ) (min (V 33 (2000 + j9ξ)) ((X.1 j9ξ) + (zd_sp (zRc V 8 56) Lwξ t0ξ (zd_pw (zd_ru (zRc V 8 56) Lwξ t0ξ) t0ξ h9ξ) h9ξ p9ξ)))) 70 (2000 + j9ξ) (h9ξ : Int)) (zp_set (zp_set Gr516 (A 69) (2000 + j9ξ) (min (V 33 (2000 + j9ξ)) ((X.1 j9ξ) + (zd_sp (zRc V 8 56) Lwξ t0ξ (zd_pw (zd_ru (zRc V 8 56) Lwξ t0ξ) t0ξ h9ξ) h9ξ p9ξ)))) (A 70) (2000 + j9ξ) (h9ξ : Int)) (by omega) (zM_setE (zM_setE hMr516ξ (hYbξ _ (List.mem_of_getElem? (i := 47) rfl))) (hYbξ _ (List.mem_of_getElem? (i := 48) rfl))) (zV_scr (zV_scr hVr516ξ (by decide)) (by decide)) ⟨(zAb_f (V' := V) (R' := (zRc V 8 56)) (M' := (zp_set (zp_set Mr516 69 (2000 + j9ξ) (min (V 33 (2000 + j9ξ)) ((X.1 j9ξ) + (zd_sp (zRc V 8 56) Lwξ t0ξ (zd_pw (zd_ru (zRc V 8 56) Lwξ t0ξ) t0ξ h9ξ) h9ξ p9ξ)))) 70 (2000 + j9ξ) (h9ξ : Int))) hAbr516ξ (fun o k h9ξ => (zp_set_ne (Or.inl (by rcases h9ξ with rfl | ⟨rfl, -⟩ <;> decide))).trans ((zp_set_ne (Or.inl (by rcases h9ξ with rfl | ⟨rfl, -⟩ <;> decide))).trans (rfl))) (fun o k h9ξ => rfl) ⟨rfl, rfl, rfl⟩), ⟨((zp_set_ne (Or.inl (by decide))).trans ((zp_set_ne (Or.inl (by decide))).trans ((Eq.trans (hMkr516ξ 5 1 (by decide) (by decide)) h51ξ)))), ((zp_set_ne (Or.inl (by decide))).trans ((zp_set_ne (Or.inl (by decide))).trans ((Eq.trans (hMkr516ξ 5 2 (by decide) (by decide)) h52ξ))))⟩, fun h hhξ => (zp_set_ne (Or.inl (by decide))).trans ((zp_set_ne (Or.inl (by decide))).trans ((hMkr516ξ 68 _ (by decide) (by decide)).trans (hpwξ h hhξ))), ?_⟩
                have hX9ξ : zDX X Mr516 := fun w hwξ => ⟨(hMkr516ξ 69 _ (by decide) (by decide)).trans (hXξ w hwξ).1, (hMkr516ξ 70 _ (by decide) (by decide)).trans (hXξ w hwξ).2⟩
                rw [zd_hp, ← hXeξ]
                unfold zd_ps
                rw [if_neg (by omega), e9ξ, Int.toNat_natCast, ← hm1ξ]
                intro w hwξ
                by_cases e8 : w = j9ξ
                · rw [e8]
                  exact ⟨(zp_set_ne (Or.inl (by decide))).trans (zp_set_self.trans (Eq.trans (by omega) (yu_at).symm)), zp_set_self.trans (Eq.trans (if_pos (by omega)).symm (yu_at).symm)⟩
                · exact ⟨(zp_set_ne (Or.inl (by decide))).trans ((zp_set_ne (Or.inr (by omega))).trans ((hX9ξ w hwξ).1.trans (yu_ne e8).symm)), (zp_set_ne (Or.inr (by omega))).trans ((zp_set_ne (Or.inl (by decide))).trans ((hX9ξ w hwξ).2.trans (yu_ne e8).symm))⟩
            · exfalso
              omega
  refine zp_const (pc := 0) hx hb (zd_X0_passHour (0, .iconst 0, 1, 0, []) (List.mem_of_getElem? (i := 0) rfl)) rfl rfl ?_
  refine zp_store (L' := [(2, 0, 0), (0, 2, (A 5 : Int)), (1, 0, (h9ξ : Int))]) (pc := 1) hx hb hnLξ (zd_X0_passHour (1, .istore_n 2, 1, 0, []) (List.mem_of_getElem? (i := 1) rfl)) rfl rfl rfl ?_
  exact loop npξ 0 M _ (by omega) hM00ξ hV0ξ hDs0ξ
noncomputable def zK_beg8 : zk_K := (zt_mn 105, prog_2_method_2_code, 6, (Option.none : Option Jvm.ClassFile.FieldType), 1, 0, [(2, 0, 0, 0), (2, 10, 0, 0), (2, 2, 0, 0), (0, 0, (-2147483648), 2147483647)], [(none, [])], zUC, (4, 240, 0, 0))
noncomputable def zφ_beg8 (A : Nat → Nat) (Y : List (Nat × Nat)) (F : List (Nat × Nat × Nat)) (V : Nat → Nat → Int) (n1ξ npξ : Nat) (t0ξ : Int) (Lwξ : List yK) : (Nat → Option Nat) → (Nat → Nat → Int) → List Int → Prop := fun P G ps => zMVc A Y F V P G ∧ ps.getD 0 0 = (A 5 : Int) ∧ zMc Y F ∧ (ps.getD 1 0) = (A 1 : Int) ∧ (ps.getD 2 0) = (A 8 : Int) ∧ t0ξ = (ps.getD 3 0) ∧ zLF A Y F V Lwξ ∧ zc_ok V 8 56 n1ξ npξ ∧ 0 ≤ t0ξ ∧ t0ξ ≤ 12
noncomputable def zψ_beg8 (A : Nat → Nat) (Y : List (Nat × Nat)) (F : List (Nat × Nat × Nat)) (V : Nat → Nat → Int) (n1ξ npξ : Nat) (t0ξ : Int) (Lwξ : List yK) : (Nat → Option Nat) → (Nat → Nat → Int) → List Int → (Nat → Option Nat) → (Nat → Nat → Int) → Int → Prop := fun P G ps P' G' rn => P' = P ∧ zMDs A Y F V Lwξ 8 56 t0ξ (zd_hr (zRc V 8 56) n1ξ npξ (zd_sp (zRc V 8 56) Lwξ t0ξ) (zd_ru (zRc V 8 56) Lwξ t0ξ) t0ξ 0) P' G'
theorem zX_beg8 {l : Launch} {w : zk_W} (hWξ : zh_W w) (A : Nat → Nat) (Y : List (Nat × Nat)) (F : List (Nat × Nat × Nat)) (V : Nat → Nat → Int) (n1ξ npξ : Nat) (t0ξ : Int) (Lwξ : List yK) : zk_metX l w zt_dv zt_TB zK_beg8 (zp_A (zφ_beg8 A Y F V n1ξ npξ t0ξ Lwξ)) (zp_B (zψ_beg8 A Y F V n1ξ npξ t0ξ Lwξ)) ∧ zk_cok w zt_TB zK_beg8 := by
  refine zp_methX (cn := "WoundTown$Day") zp_lkallDy hWξ (pl := 997) rfl (by decide +kernel) (fun p e R s m args below meth c Q u hx hb hEξ hQξ hU5ξ heffξ hnLξ hokξ hφ => ?_)
  have hwξ := hWξ.1
  obtain ⟨p0ξ, p1ξ, p2ξ, p3ξ, hpsξ, tk0, tk1, tk2, tk3⟩ := zp_ps4 hokξ
  have hrmξ : zk_Kr (zk_ev (zt_types, zp_lkDy, zt_dv, [], [], zp_lcDy, zK_beg8)) = zk_Kr zK_beg8 := rfl
  rw [hpsξ] at hφ ⊢
  have hφ : zMVc A Y F V u.1 (zp_n u.2.1) ∧ p0ξ = (A 5 : Int) ∧ zMc Y F ∧ p1ξ = (A 1 : Int) ∧ p2ξ = (A 8 : Int) ∧ t0ξ = p3ξ ∧ zLF A Y F V Lwξ ∧ zc_ok V 8 56 n1ξ npξ ∧ 0 ≤ t0ξ ∧ t0ξ ≤ 12 := hφ
  obtain ⟨⟨M, hMξ, hVξ, hSbξ⟩, rfl, hYFξ, rfl, rfl, rfl, hlwξ, hokξ, ht0ξ, ht12ξ⟩ := hφ
  have hYF0ξ := hYFξ
  obtain ⟨hYbξ, hFbξ, hFxξ, -⟩ := hYFξ
  have hi3ξ := zp_int tk3
  show zp_J p l e R s m args below meth c Q w u [] 0 [(0, 2, (A 5 : Int)), (1, 2, (A 1 : Int)), (2, 2, (A 8 : Int)), (3, 0, t0ξ)] [] u.1 (zp_n u.2.1)
  obtain ⟨hn10ξ, hnp6ξ, hn1ξ, hnpξ, hDwξ, hDpξ⟩ := hokξ.1
  have hn1ξ : V 1 3 = (n1ξ : Int) := hn1ξ
  have hnpξ : V 1 1 = (npξ : Int) := hnpξ
  refine zp_load (pc := 0) hx hb (zd_X0_begin (0, .aload_n 0, 1, 0, []) (List.mem_of_getElem? (i := 0) rfl)) rfl (j := 0) rfl ?_
  refine zp_load (pc := 1) hx hb (zd_X0_begin (1, .aload_n 1, 1, 0, []) (List.mem_of_getElem? (i := 1) rfl)) rfl (j := 1) rfl ?_
  refine zp_putr (pc := 2) hx hb hEξ hwξ heffξ (zd_X0_begin (2, .putfield 25, 3, 0, []) (List.mem_of_getElem? (i := 2) rfl)) (j := 18) rfl rfl rfl (zM_P hMξ (hYbξ _ (List.mem_of_getElem? (i := 5) rfl))) (zp_o2 (zM_P hMξ (hYbξ _ (List.mem_of_getElem? (i := 1) rfl)))) ?_
  refine zp_load (pc := 5) hx hb (zd_X0_begin (5, .aload_n 0, 1, 0, []) (List.mem_of_getElem? (i := 3) rfl)) rfl (j := 0) rfl ?_
  refine zp_load (pc := 6) hx hb (zd_X0_begin (6, .aload_n 2, 1, 0, []) (List.mem_of_getElem? (i := 4) rfl)) rfl (j := 2) rfl ?_
  refine zp_putr (pc := 7) hx hb hEξ hwξ heffξ (zd_X0_begin (7, .putfield 35, 3, 0, []) (List.mem_of_getElem? (i := 5) rfl)) (j := 19) rfl rfl rfl (zM_P hMξ (hYbξ _ (List.mem_of_getElem? (i := 5) rfl))) (zp_o2 (zM_P hMξ (hYbξ _ (List.mem_of_getElem? (i := 8) rfl)))) ?_
  refine zp_load (pc := 10) hx hb (zd_X0_begin (10, .aload_n 0, 1, 0, []) (List.mem_of_getElem? (i := 6) rfl)) rfl (j := 0) rfl ?_
  refine zp_getf (n := (A 4 : Int)) (pc := 11) hx hb hEξ hwξ (zd_X0_begin (11, .getfield 21, 3, 0, []) (List.mem_of_getElem? (i := 7) rfl)) (j := 17) rfl rfl rfl (zM_P hMξ (hYbξ _ (List.mem_of_getElem? (i := 5) rfl))) ((zp_set_ne (Or.inr (by decide))).trans ((zp_set_ne (Or.inr (by decide))).trans (((zM_G hMξ (hYbξ _ (List.mem_of_getElem? (i := 5) rfl)) 0).trans (zM_F hMξ (hFbξ _ (List.mem_of_getElem? (i := 43) rfl))))))) ?_
  refine zp_load (pc := 14) hx hb (zd_X0_begin (14, .aload_n 0, 1, 0, []) (List.mem_of_getElem? (i := 8) rfl)) rfl (j := 0) rfl ?_
  refine zp_getf (n := (A 1 : Int)) (pc := 15) hx hb hEξ hwξ (zd_X0_begin (15, .getfield 25, 3, 0, []) (List.mem_of_getElem? (i := 9) rfl)) (j := 18) rfl rfl rfl (zM_P hMξ (hYbξ _ (List.mem_of_getElem? (i := 5) rfl))) ((zp_set_ne (Or.inr (by decide))).trans (zp_set_self)) ?_
  refine zp_load (pc := 18) hx hb (zd_X0_begin (18, .aload_n 0, 1, 0, []) (List.mem_of_getElem? (i := 10) rfl)) rfl (j := 0) rfl ?_
  refine zp_getf (n := (A 8 : Int)) (pc := 19) hx hb hEξ hwξ (zd_X0_begin (19, .getfield 35, 3, 0, []) (List.mem_of_getElem? (i := 11) rfl)) (j := 19) rfl rfl rfl (zM_P hMξ (hYbξ _ (List.mem_of_getElem? (i := 5) rfl))) zp_set_self ?_
  refine zp_load (pc := 22) hx hb (zd_X0_begin (22, .iload_n 3, 1, 0, []) (List.mem_of_getElem? (i := 12) rfl)) rfl (j := 3) rfl ?_
  refine zp_call (pc := 23) (how := 0) (idx := 36) (mi := 90) (S := []) hx hb hEξ hwξ heffξ hrmξ (zX_abt8 hWξ A Y F V Lwξ) rfl (j := 1) rfl rfl (by decide +kernel) (zd_X0_begin (23, .invokevirtual 36, 3, 0, []) (List.mem_of_getElem? (i := 13) rfl)) [(A 4 : Int), (A 1 : Int), (A 8 : Int), t0ξ] rfl ⟨zp_o2 (zM_P hMξ (hYbξ _ (List.mem_of_getElem? (i := 4) rfl))), zp_o2 (zM_P hMξ (hYbξ _ (List.mem_of_getElem? (i := 1) rfl))), zp_o2 (zM_P hMξ (hYbξ _ (List.mem_of_getElem? (i := 8) rfl))), zp_o0 (by omega) (by omega) (by omega) (by omega), trivial⟩ (Nat.le_of_ble_eq_true rfl) ⟨⟨(zp_set (zp_set M 5 1 (A 1 : Int)) 5 2 (A 8 : Int)), (zM_set (zM_set hMξ (hYbξ _ (List.mem_of_getElem? (i := 5) rfl)) (zFx hFxξ (o := 5) (k := 1) (by decide) (by decide))) (hYbξ _ (List.mem_of_getElem? (i := 5) rfl)) (zFx hFxξ (o := 5) (k := 2) (by decide) (by decide))), (zV_scr (zV_scr hVξ (by decide)) (by decide)), trivial⟩, rfl, hYF0ξ, rfl, rfl, hlwξ⟩ (fun al halξ rnab Pab Gab hextabξ hfrabξ hokabξ hcsabξ hpsiabξ => ?_)
  obtain rfl := List.mem_singleton.mp halξ
  obtain ⟨hPeabξ, Mab, hMabξ, hVabξ, hAbabξ⟩ := hpsiabξ
  have hMqξ : zM A Y F (zp_set (zp_set M 5 1 (A 1 : Int)) 5 2 (A 8 : Int)) u.1 (zp_set (zp_set (zp_n u.2.1) (A 5) 1 (A 1 : Int)) (A 5) 2 (A 8 : Int)) := (zM_set (zM_set hMξ (hYbξ _ (List.mem_of_getElem? (i := 5) rfl)) (zFx hFxξ (o := 5) (k := 1) (by decide) (by decide))) (hYbξ _ (List.mem_of_getElem? (i := 5) rfl)) (zFx hFxξ (o := 5) (k := 2) (by decide) (by decide)))
  have h5abξ : ∀ k, Mab 5 k = (zp_set (zp_set M 5 1 (A 1 : Int)) 5 2 (A 8 : Int)) 5 k := fun k => by
    have h9ξ := zp_nf5 hfrabξ (zM_P hMqξ (hYbξ _ (List.mem_of_getElem? (i := 5) rfl))) hMabξ (hYbξ _ (List.mem_of_getElem? (i := 5) rfl)) k
    exact (Eq.trans h9ξ) (zM_G hMqξ (hYbξ _ (List.mem_of_getElem? (i := 5) rfl)) k)
  subst hPeabξ
  clear hextabξ hfrabξ hokabξ hcsabξ
  refine zp_load (pc := 26) hx hb (zd_X0_begin (26, .iload_n 3, 1, 0, []) (List.mem_of_getElem? (i := 14) rfl)) rfl (j := 3) rfl ?_
  refine zp_const (pc := 27) hx hb (zd_X0_begin (27, .bipush 100, 2, 0, []) (List.mem_of_getElem? (i := 15) rfl)) rfl rfl ?_
  refine zp_mul (n := (t0ξ * 100)) (pc := 29) hx hb (zd_X0_begin (29, .imul, 1, 0, []) (List.mem_of_getElem? (i := 16) rfl)) (by omega) (zp_r0 (by omega) (by omega)) ?_
  refine zp_store (L' := [(4, 0, (t0ξ * 100)), (0, 2, (A 5 : Int)), (1, 2, (A 1 : Int)), (2, 2, (A 8 : Int)), (3, 0, t0ξ)]) (pc := 30) hx hb hnLξ (zd_X0_begin (30, .istore 4, 2, 0, []) (List.mem_of_getElem? (i := 17) rfl)) rfl rfl rfl ?_
  refine zp_const (pc := 32) hx hb (zd_X0_begin (32, .iconst 0, 1, 0, []) (List.mem_of_getElem? (i := 18) rfl)) rfl rfl ?_
  refine zp_store (L' := [(5, 0, 0), (4, 0, (t0ξ * 100)), (0, 2, (A 5 : Int)), (1, 2, (A 1 : Int)), (2, 2, (A 8 : Int)), (3, 0, t0ξ)]) (pc := 33) hx hb hnLξ (zd_X0_begin (33, .istore 5, 2, 0, []) (List.mem_of_getElem? (i := 19) rfl)) rfl rfl rfl ?_
  have hd51ξ : Mab 5 1 = (A 1 : Int) := (Eq.trans (h5abξ 1) ((zp_set_ne (Or.inr (by decide))).trans (zp_set_self)))
  have hd52ξ : Mab 5 2 = (A 8 : Int) := (Eq.trans (h5abξ 2) zp_set_self)
  have loop : ∀ (r9ξ h9ξ : Nat) (M : Nat → Nat → Int) (G : Nat → Nat → Int), r9ξ + h9ξ = 24 → zM A Y F M u.1 G → (∀ o k, zNc o → M o k = V o k) → zAb A Y F V Lwξ (zRc V 8 56) t0ξ M → M 5 1 = (A 1 : Int) → M 5 2 = (A 8 : Int) → (∀ h, h < h9ξ → M 68 (2000 + h) = zd_pw (zd_ru (zRc V 8 56) Lwξ t0ξ) t0ξ h) → zp_J p l e R s m args below meth c Q w u [] 35 [(5, 0, (h9ξ : Int)), (4, 0, (zd_pw (zd_ru (zRc V 8 56) Lwξ t0ξ) t0ξ h9ξ)), (0, 2, (A 5 : Int)), (1, 2, (A 1 : Int)), (2, 2, (A 8 : Int)), (3, 0, t0ξ)] [] u.1 G := by
    intro r9ξ
    induction r9ξ with
    | zero =>
      intro h9ξ M G hrξ hMξ hVξ hAbξ h51ξ h52ξ hpwξ
      refine zp_load (pc := 35) hx hb (zd_X0_begin (35, .iload 5, 2, 0, []) (List.mem_of_getElem? (i := 20) rfl)) rfl (j := 0) rfl ?_
      refine zp_const (pc := 37) hx hb (zd_X0_begin (37, .bipush 24, 2, 0, []) (List.mem_of_getElem? (i := 21) rfl)) rfl rfl ?_
      refine zp_icmp (pc := 39) (tgt := 82) hx hb (zd_X0_begin (39, .if_icmp .ge 43, 3, 0, []) (List.mem_of_getElem? (i := 22) rfl)) rfl (fun (hc522ξ : 24 ≤ (h9ξ : Int)) => ?_) (fun (hc522ξ : ¬ (24 ≤ (h9ξ : Int))) => ?_)
      · refine zp_load (pc := 82) hx hb (zd_X0_begin (82, .aload_n 0, 1, 0, []) (List.mem_of_getElem? (i := 42) rfl)) rfl (j := 2) rfl ?_
        refine zp_getf (n := (A 8 : Int)) (pc := 83) hx hb hEξ hwξ (zd_X0_begin (83, .getfield 35, 3, 0, []) (List.mem_of_getElem? (i := 43) rfl)) (j := 19) rfl rfl rfl (zM_P hMξ (hYbξ _ (List.mem_of_getElem? (i := 5) rfl))) ((zM_G hMξ (hYbξ _ (List.mem_of_getElem? (i := 5) rfl)) 2).trans h52ξ) ?_
        refine zp_getf (n := (A 58 : Int)) (pc := 86) hx hb hEξ hwξ (zd_X0_begin (86, .getfield 51, 3, 0, []) (List.mem_of_getElem? (i := 44) rfl)) (j := 2) rfl rfl rfl (zM_P hMξ (hYbξ _ (List.mem_of_getElem? (i := 8) rfl))) ((zM_G hMξ (hYbξ _ (List.mem_of_getElem? (i := 8) rfl)) 2).trans (zM_F hMξ (hFbξ _ (List.mem_of_getElem? (i := 33) rfl)))) ?_
        refine zp_const (pc := 89) hx hb (zd_X0_begin (89, .iconst 0, 1, 0, []) (List.mem_of_getElem? (i := 45) rfl)) rfl rfl ?_
        refine zp_load (pc := 90) hx hb (zd_X0_begin (90, .aload_n 0, 1, 0, []) (List.mem_of_getElem? (i := 46) rfl)) rfl (j := 2) rfl ?_
        refine zp_getf (n := (A 69 : Int)) (pc := 91) hx hb hEξ hwξ (zd_X0_begin (91, .getfield 15, 3, 0, []) (List.mem_of_getElem? (i := 47) rfl)) (j := 21) rfl rfl rfl (zM_P hMξ (hYbξ _ (List.mem_of_getElem? (i := 5) rfl))) ((zM_G hMξ (hYbξ _ (List.mem_of_getElem? (i := 5) rfl)) 4).trans (zM_F hMξ (hFbξ _ (List.mem_of_getElem? (i := 45) rfl)))) ?_
        refine zp_const (pc := 94) hx hb (zd_X0_begin (94, .iconst 0, 1, 0, []) (List.mem_of_getElem? (i := 48) rfl)) rfl rfl ?_
        refine zp_const (pc := 95) hx hb (zd_X0_begin (95, .bipush 10, 2, 0, []) (List.mem_of_getElem? (i := 49) rfl)) rfl rfl ?_
        refine zp_copyO (n := 10) (i0 := 0) (i1 := 0) (pc := 97) (idx := 54) (T0 := zt_types.getD 19 (0, 0, 0, [])) (T := zt_types.getD 15 (0, 0, 0, [])) hx hb hEξ hwξ heffξ hrmξ (zd_X0_begin (97, .invokestatic 54, 3, 0, []) (List.mem_of_getElem? (i := 50) rfl)) (j := 24) rfl rfl rfl rfl rfl (zM_P hMξ (hYbξ _ (List.mem_of_getElem? (i := 36) rfl))) (zM_P hMξ (hYbξ _ (List.mem_of_getElem? (i := 47) rfl))) rfl (by omega) (by omega) (show 0 + 10 ≤ 10 by omega) (show 0 + 10 ≤ 10 by omega) (by omega) (fun j hjξ v h => h) ⟨by decide, by decide⟩ (by decide) (Or.inr ⟨by decide, by decide⟩) rfl ?_
        have hMy523ξ : zM A Y F (zc_cp M 58 0 69 0 10) u.1 (zp_cpo G (A 58) 0 (A 69) 0 10) := zM_cp hMξ (hYbξ _ (List.mem_of_getElem? (i := 36) rfl)) (hYbξ _ (List.mem_of_getElem? (i := 47) rfl))
        have hVy523ξ : ∀ o k, zNc o → (zc_cp M 58 0 69 0 10) o k = V o k := zV_cps (o0 := 58) (i0 := 0) (i1 := 0) (n := 10) (M := M) hVξ (o1 := 69) (fun k => by decide)
        obtain ⟨Gy523, hGy523ξ⟩ : ∃ G9ξ, G9ξ = zp_cpo G (A 58) 0 (A 69) 0 10 := ⟨_, rfl⟩
        rw [← hGy523ξ] at hMy523ξ ⊢
        refine zp_load (pc := 100) hx hb (zd_X0_begin (100, .aload_n 0, 1, 0, []) (List.mem_of_getElem? (i := 51) rfl)) rfl (j := 2) rfl ?_
        refine zp_getf (n := (A 70 : Int)) (pc := 101) hx hb hEξ hwξ (zd_X0_begin (101, .getfield 18, 3, 0, []) (List.mem_of_getElem? (i := 52) rfl)) (j := 22) rfl rfl rfl (zM_P hMy523ξ (hYbξ _ (List.mem_of_getElem? (i := 5) rfl))) ((zM_G hMy523ξ (hYbξ _ (List.mem_of_getElem? (i := 5) rfl)) 5).trans (zM_F hMy523ξ (hFbξ _ (List.mem_of_getElem? (i := 46) rfl)))) ?_
        refine zp_const (pc := 104) hx hb (zd_X0_begin (104, .iconst (-1), 1, 0, []) (List.mem_of_getElem? (i := 53) rfl)) rfl rfl ?_
        refine zp_call (pc := 105) (how := 1) (idx := 60) (mi := 107) (S := []) hx hb hEξ hwξ heffξ hrmξ (zX_fil70 hWξ A Y F (zc_cp M 58 0 69 0 10)) rfl (j := 3) rfl rfl (by decide +kernel) (zd_X0_begin (105, .invokestatic 60, 3, 0, []) (List.mem_of_getElem? (i := 54) rfl)) [(A 70 : Int), (-1)] rfl ⟨zp_o2 (zM_P hMy523ξ (hYbξ _ (List.mem_of_getElem? (i := 48) rfl))), zp_o0 (by omega) (by omega) (by omega) (by omega), trivial⟩ (Nat.le_of_ble_eq_true rfl) ⟨hMy523ξ, rfl, hYF0ξ⟩ (fun al halξ rnfl Pfl Gfl hextflξ hfrflξ hokflξ hcsflξ hpsiflξ => ?_)
        obtain rfl := List.mem_singleton.mp halξ
        obtain ⟨hPeflξ, Mfl, hMflξ, hkflξ, hjflξ⟩ := hpsiflξ
        subst hPeflξ
        clear hextflξ hfrflξ hokflξ hcsflξ
        have hcpξ : ∀ o k, o ≠ 69 → o ≠ 70 → Mfl o k = M o k := fun o k e1 e2 => (hkflξ o k e2).trans (zc_cp_o e1)
        have hVflξ : ∀ o k, zNc o → Mfl o k = V o k := fun o k hkξ => (hcpξ o k (fun e => hkξ (by rw [e]; decide)) (fun e => hkξ (by rw [e]; decide))).trans (hVξ o k hkξ)
        refine zp_vret (pc := 108) hx hb hEξ hQξ hU5ξ rfl (by decide) (zd_X0_begin (108, .return_, 1, 0, []) (List.mem_of_getElem? (i := 55) rfl)) (j := 0) rfl ?_
        rw [hpsξ]
        refine ⟨rfl, ?_⟩
        refine ⟨Mfl, hMflξ, hVflξ, zAb_f hAbξ (fun o k h9ξ => hcpξ o k (by rcases h9ξ with rfl | ⟨rfl, -⟩ <;> decide) (by rcases h9ξ with rfl | ⟨rfl, -⟩ <;> decide)) (fun o k h9ξ => rfl) ⟨rfl, rfl, rfl⟩, ⟨(hcpξ 5 1 (by decide) (by decide)).trans h51ξ, (hcpξ 5 2 (by decide) (by decide)).trans h52ξ⟩, fun h hhξ => (hcpξ 68 _ (by decide) (by decide)).trans (hpwξ h (by omega)), fun w hwξ => ⟨?_, hjflξ w hwξ⟩⟩
        refine (hkflξ 69 _ (by decide)).trans ((zc_cp_e (by omega) (by omega)).trans ?_)
        refine (hVξ 58 _ (by decide)).trans ?_
        show V 58 (2000 + (0 + (w - 0))) = zRc V 8 56 (w + 29)
        rw [zRc_d hwξ, show 0 + (w - 0) = w by omega]
      · exfalso
        omega
    | succ r9ξ ih =>
      intro h9ξ M G hrξ hMξ hVξ hAbξ h51ξ h52ξ hpwξ
      have hpwbξ := zd_pwb (R := (zRc V 8 56)) (L := Lwξ) ht0ξ ht12ξ (h := h9ξ)
      have hrubξ := zd_rub (R := (zRc V 8 56)) (L := Lwξ) (t := t0ξ) (pw := (zd_pw (zd_ru (zRc V 8 56) Lwξ t0ξ) t0ξ h9ξ)) (h := h9ξ)
      have hpw1ξ : (zd_pw (zd_ru (zRc V 8 56) Lwξ t0ξ) t0ξ (h9ξ + 1)) = max 0 (min 100000000 ((zd_pw (zd_ru (zRc V 8 56) Lwξ t0ξ) t0ξ h9ξ) - (zd_ru (zRc V 8 56) Lwξ t0ξ (zd_pw (zd_ru (zRc V 8 56) Lwξ t0ξ) t0ξ h9ξ) h9ξ))) := rfl
      refine zp_load (pc := 35) hx hb (zd_X0_begin (35, .iload 5, 2, 0, []) (List.mem_of_getElem? (i := 20) rfl)) rfl (j := 0) rfl ?_
      refine zp_const (pc := 37) hx hb (zd_X0_begin (37, .bipush 24, 2, 0, []) (List.mem_of_getElem? (i := 21) rfl)) rfl rfl ?_
      refine zp_icmp (pc := 39) (tgt := 82) hx hb (zd_X0_begin (39, .if_icmp .ge 43, 3, 0, []) (List.mem_of_getElem? (i := 22) rfl)) rfl (fun (hc524ξ : 24 ≤ (h9ξ : Int)) => ?_) (fun (hc524ξ : ¬ (24 ≤ (h9ξ : Int))) => ?_)
      · exfalso
        omega
      · refine zp_load (pc := 42) hx hb (zd_X0_begin (42, .aload_n 0, 1, 0, []) (List.mem_of_getElem? (i := 23) rfl)) rfl (j := 2) rfl ?_
        refine zp_getf (n := (A 68 : Int)) (pc := 43) hx hb hEξ hwξ (zd_X0_begin (43, .getfield 9, 3, 0, []) (List.mem_of_getElem? (i := 24) rfl)) (j := 20) rfl rfl rfl (zM_P hMξ (hYbξ _ (List.mem_of_getElem? (i := 5) rfl))) ((zM_G hMξ (hYbξ _ (List.mem_of_getElem? (i := 5) rfl)) 3).trans (zM_F hMξ (hFbξ _ (List.mem_of_getElem? (i := 44) rfl)))) ?_
        refine zp_load (pc := 46) hx hb (zd_X0_begin (46, .iload 5, 2, 0, []) (List.mem_of_getElem? (i := 25) rfl)) rfl (j := 0) rfl ?_
        refine zp_load (pc := 48) hx hb (zd_X0_begin (48, .iload 4, 2, 0, []) (List.mem_of_getElem? (i := 26) rfl)) rfl (j := 1) rfl ?_
        refine zp_iast (j := h9ξ) (pc := 50) hx hb hwξ heffξ (zd_X0_begin (50, .iastore, 1, 0, []) (List.mem_of_getElem? (i := 27) rfl)) (show zp_ia 1 14 = some (24, 0, 0, (-2147483648), 2147483647) from rfl) (zM_P hMξ (hYbξ _ (List.mem_of_getElem? (i := 46) rfl))) (by omega) (by omega) (zp_o0 (by omega) (by omega) (by omega) (by omega)) rfl ?_
        refine zp_load (pc := 51) hx hb (zd_X0_begin (51, .iload 4, 2, 0, []) (List.mem_of_getElem? (i := 28) rfl)) rfl (j := 1) rfl ?_
        refine zp_if (pc := 53) (tgt := 76) hx hb (zd_X0_begin (53, .ifCond .le 23, 3, 0, []) (List.mem_of_getElem? (i := 29) rfl)) rfl (fun (hc525ξ : (zd_pw (zd_ru (zRc V 8 56) Lwξ t0ξ) t0ξ h9ξ) ≤ 0) => ?_) (fun (hc525ξ : ¬ ((zd_pw (zd_ru (zRc V 8 56) Lwξ t0ξ) t0ξ h9ξ) ≤ 0)) => ?_)
        · refine zp_iinc (L' := [(5, 0, ((h9ξ : Int) + 1)), (4, 0, (zd_pw (zd_ru (zRc V 8 56) Lwξ t0ξ) t0ξ h9ξ)), (0, 2, (A 5 : Int)), (1, 2, (A 1 : Int)), (2, 2, (A 8 : Int)), (3, 0, t0ξ)]) (n := ((h9ξ : Int) + 1)) (pc := 76) hx hb hnLξ (zd_X0_begin (76, .iinc 5 1, 3, 0, []) (List.mem_of_getElem? (i := 40) rfl)) (j := 0) rfl (by omega) (zp_r0 (by omega) (by omega)) rfl rfl ?_
          refine zp_goto (tgt := 35) (pc := 79) hx hb (zd_X0_begin (79, .goto (-44), 3, 0, []) (List.mem_of_getElem? (i := 41) rfl)) rfl ?_
          have hl9ξ : (zd_pw (zd_ru (zRc V 8 56) Lwξ t0ξ) t0ξ h9ξ) = (zd_pw (zd_ru (zRc V 8 56) Lwξ t0ξ) t0ξ (h9ξ + 1)) := by rw [hpw1ξ]; omega
          generalize hGq9ξ : (zp_set G (A 68) (2000 + h9ξ) (zd_pw (zd_ru (zRc V 8 56) Lwξ t0ξ) t0ξ h9ξ)) = Gq9
          rw [hl9ξ]
          subst hGq9ξ
          refine zp_drop (L' := [(5, 0, ((h9ξ : Int) + 1)), (4, 0, (zd_pw (zd_ru (zRc V 8 56) Lwξ t0ξ) t0ξ (h9ξ + 1))), (0, 2, (A 5 : Int)), (1, 2, (A 1 : Int)), (2, 2, (A 8 : Int)), (3, 0, t0ξ)]) (by simp) ?_
          refine ih (h9ξ + 1) (zp_set M 68 (2000 + h9ξ) (zd_pw (zd_ru (zRc V 8 56) Lwξ t0ξ) t0ξ h9ξ)) (zp_set G (A 68) (2000 + h9ξ) (zd_pw (zd_ru (zRc V 8 56) Lwξ t0ξ) t0ξ h9ξ)) (by omega) (zM_setE hMξ (hYbξ _ (List.mem_of_getElem? (i := 46) rfl))) (zV_scr hVξ (by decide)) (zAb_f (V' := V) (R' := (zRc V 8 56)) (M' := (zp_set M 68 (2000 + h9ξ) (zd_pw (zd_ru (zRc V 8 56) Lwξ t0ξ) t0ξ h9ξ))) hAbξ (fun o k h9ξ => (zp_set_ne (Or.inl (by rcases h9ξ with rfl | ⟨rfl, -⟩ <;> decide))).trans (rfl)) (fun o k h9ξ => rfl) ⟨rfl, rfl, rfl⟩) (((zp_set_ne (Or.inl (by decide))).trans (h51ξ))) (((zp_set_ne (Or.inl (by decide))).trans (h52ξ))) (fun h hhξ => ?_)
          by_cases e9ξ : h = h9ξ
          · rw [e9ξ]
            exact zp_set_self
          · exact (zp_set_ne (Or.inr (by omega))).trans (hpwξ h (by omega))
        · refine zp_const (pc := 56) hx hb (zd_X0_begin (56, .iconst 0, 1, 0, []) (List.mem_of_getElem? (i := 30) rfl)) rfl rfl ?_
          refine zp_load (pc := 57) hx hb (zd_X0_begin (57, .iload 4, 2, 0, []) (List.mem_of_getElem? (i := 31) rfl)) rfl (j := 1) rfl ?_
          refine zp_load (pc := 59) hx hb (zd_X0_begin (59, .aload_n 0, 1, 0, []) (List.mem_of_getElem? (i := 32) rfl)) rfl (j := 2) rfl ?_
          refine zp_getf (n := (A 4 : Int)) (pc := 60) hx hb hEξ hwξ (zd_X0_begin (60, .getfield 21, 3, 0, []) (List.mem_of_getElem? (i := 33) rfl)) (j := 17) rfl rfl rfl (zM_P hMξ (hYbξ _ (List.mem_of_getElem? (i := 5) rfl))) ((zp_set_ne (Or.inl (zM_ne hMξ (hYbξ _ (List.mem_of_getElem? (i := 5) rfl)) (hYbξ _ (List.mem_of_getElem? (i := 46) rfl)) (by decide)))).trans (((zM_G hMξ (hYbξ _ (List.mem_of_getElem? (i := 5) rfl)) 0).trans (zM_F hMξ (hFbξ _ (List.mem_of_getElem? (i := 43) rfl)))))) ?_
          refine zp_load (pc := 63) hx hb (zd_X0_begin (63, .iload 5, 2, 0, []) (List.mem_of_getElem? (i := 34) rfl)) rfl (j := 0) rfl ?_
          refine zp_load (pc := 65) hx hb (zd_X0_begin (65, .iload 4, 2, 0, []) (List.mem_of_getElem? (i := 35) rfl)) rfl (j := 1) rfl ?_
          have hlr526ξ := zg_lawM (zM_setE hMξ (hYbξ _ (List.mem_of_getElem? (i := 46) rfl))) hYF0ξ (zV_scr hVξ (by decide)) (zAb_f (V' := V) (R' := (zRc V 8 56)) (M' := (zp_set M 68 (2000 + h9ξ) (zd_pw (zd_ru (zRc V 8 56) Lwξ t0ξ) t0ξ h9ξ))) hAbξ (fun o k h9ξ => (zp_set_ne (Or.inl (by rcases h9ξ with rfl | ⟨rfl, -⟩ <;> decide))).trans (rfl)) (fun o k h9ξ => rfl) ⟨rfl, rfl, rfl⟩) (pw := (zd_pw (zd_ru (zRc V 8 56) Lwξ t0ξ) t0ξ h9ξ)) (hrξ := (h9ξ : Int)) (p := (-1)) (o := (-1)) (l := (-1)) (by omega) (by omega) (by omega) (by omega) (by omega) (by rfl) (by rfl)
          refine zp_call (pc := 67) (how := 0) (idx := 42) (mi := 106) (S := [(0, (zd_pw (zd_ru (zRc V 8 56) Lwξ t0ξ) t0ξ h9ξ)), (0, 0)]) hx hb hEξ hwξ heffξ hrmξ (zX_ru_ hWξ (A 66) (fun j => (zp_set M 68 (2000 + h9ξ) (zd_pw (zd_ru (zRc V 8 56) Lwξ t0ξ) t0ξ h9ξ)) 66 (2000 + j)) (zg_ew (zRc V 8 56) zd_S0 t0ξ (zd_pw (zd_ru (zRc V 8 56) Lwξ t0ξ) t0ξ h9ξ) (h9ξ : Int) (-1)) Lwξ) rfl (j := 2) rfl rfl (by decide +kernel) (zd_X0_begin (67, .invokevirtual 42, 3, 0, []) (List.mem_of_getElem? (i := 36) rfl)) [(A 4 : Int), (h9ξ : Int), (zd_pw (zd_ru (zRc V 8 56) Lwξ t0ξ) t0ξ h9ξ)] rfl ⟨zp_o2 (zM_P hMξ (hYbξ _ (List.mem_of_getElem? (i := 4) rfl))), zp_o0 (by omega) (by omega) (by omega) (by omega), zp_o0 (by omega) (by omega) (by omega) (by omega), trivial⟩ (Nat.le_of_ble_eq_true rfl) hlr526ξ (fun al halξ rnr526ξ Pr526 Gr526 hextr526ξ hfrr526ξ hokr526ξ hcsr526ξ hpsir526ξ => ?_)
          obtain rfl := List.mem_singleton.mp halξ
          have hrr526ξ := zp_int (hokr526ξ _ rfl).1
          obtain ⟨hPer526ξ, hWnr526ξ, htr526ξ⟩ := hpsir526ξ
          obtain ⟨Mr526, hMr526ξ, hMkr526ξ, hM6r526ξ⟩ := zM_rul (zM_setE hMξ (hYbξ _ (List.mem_of_getElem? (i := 46) rfl))) hYF0ξ hfrr526ξ hextr526ξ
          subst hPer526ξ
          have hVr526ξ : ∀ o k, zNc o → Mr526 o k = V o k := fun o k hkξ => (hMkr526ξ o k (fun e => hkξ (by rw [e]; decide)) (fun e => hkξ (by rw [e]; decide))).trans ((zV_scr hVξ (by decide)) o k hkξ)
          have hAbr526ξ := zAb_n ((zAb_f (V' := V) (R' := (zRc V 8 56)) (M' := (zp_set M 68 (2000 + h9ξ) (zd_pw (zd_ru (zRc V 8 56) Lwξ t0ξ) t0ξ h9ξ))) hAbξ (fun o k h9ξ => (zp_set_ne (Or.inl (by rcases h9ξ with rfl | ⟨rfl, -⟩ <;> decide))).trans (rfl)) (fun o k h9ξ => rfl) ⟨rfl, rfl, rfl⟩)) (fun j => (hM6r526ξ (2000 + j)).trans (hWnr526ξ j)) hlr526ξ.1.2.2.2.2.1 (hMkr526ξ 4 2 (by decide) (by decide))
          clear hextr526ξ hfrr526ξ hokr526ξ hcsr526ξ hlr526ξ
          have htr526ξ : rnr526ξ = (zy_ru (zg_ew (zRc V 8 56) zd_S0 t0ξ (zd_pw (zd_ru (zRc V 8 56) Lwξ t0ξ) t0ξ h9ξ) (h9ξ : Int) (-1)) Lwξ) := htr526ξ
          have htr526ξ : rnr526ξ = (zd_ru (zRc V 8 56) Lwξ t0ξ (zd_pw (zd_ru (zRc V 8 56) Lwξ t0ξ) t0ξ h9ξ) h9ξ) := htr526ξ
          have htr526ξ := (Eq.symm htr526ξ)
          subst htr526ξ
          refine zp_sub (n := ((zd_pw (zd_ru (zRc V 8 56) Lwξ t0ξ) t0ξ h9ξ) - (zd_ru (zRc V 8 56) Lwξ t0ξ (zd_pw (zd_ru (zRc V 8 56) Lwξ t0ξ) t0ξ h9ξ) h9ξ))) (pc := 70) hx hb (zd_X0_begin (70, .isub, 1, 0, []) (List.mem_of_getElem? (i := 37) rfl)) (by omega) (zp_r0 (by omega) (by omega)) ?_
          refine zp_mm (n := (max 0 ((zd_pw (zd_ru (zRc V 8 56) Lwξ t0ξ) t0ξ h9ξ) - (zd_ru (zRc V 8 56) Lwξ t0ξ (zd_pw (zd_ru (zRc V 8 56) Lwξ t0ξ) t0ξ h9ξ) h9ξ)))) (S := []) (pc := 71) hx hb hEξ hrmξ (zd_X0_begin (71, .invokestatic 46, 3, 0, []) (List.mem_of_getElem? (i := 38) rfl)) (j := 23) rfl (Or.inl ⟨rfl, by omega⟩) ⟨by decide, Nat.le_of_ble_eq_true rfl⟩ ?_
          refine zp_store (L' := [(4, 0, (max 0 ((zd_pw (zd_ru (zRc V 8 56) Lwξ t0ξ) t0ξ h9ξ) - (zd_ru (zRc V 8 56) Lwξ t0ξ (zd_pw (zd_ru (zRc V 8 56) Lwξ t0ξ) t0ξ h9ξ) h9ξ)))), (5, 0, (h9ξ : Int)), (0, 2, (A 5 : Int)), (1, 2, (A 1 : Int)), (2, 2, (A 8 : Int)), (3, 0, t0ξ)]) (pc := 74) hx hb hnLξ (zd_X0_begin (74, .istore 4, 2, 0, []) (List.mem_of_getElem? (i := 39) rfl)) rfl rfl rfl ?_
          refine zp_iinc (L' := [(5, 0, ((h9ξ : Int) + 1)), (4, 0, (max 0 ((zd_pw (zd_ru (zRc V 8 56) Lwξ t0ξ) t0ξ h9ξ) - (zd_ru (zRc V 8 56) Lwξ t0ξ (zd_pw (zd_ru (zRc V 8 56) Lwξ t0ξ) t0ξ h9ξ) h9ξ)))), (0, 2, (A 5 : Int)), (1, 2, (A 1 : Int)), (2, 2, (A 8 : Int)), (3, 0, t0ξ)]) (n := ((h9ξ : Int) + 1)) (pc := 76) hx hb hnLξ (zd_X0_begin (76, .iinc 5 1, 3, 0, []) (List.mem_of_getElem? (i := 40) rfl)) (j := 1) rfl (by omega) (zp_r0 (by omega) (by omega)) rfl rfl ?_
          refine zp_goto (tgt := 35) (pc := 79) hx hb (zd_X0_begin (79, .goto (-44), 3, 0, []) (List.mem_of_getElem? (i := 41) rfl)) rfl ?_
          have hl9ξ : (max 0 ((zd_pw (zd_ru (zRc V 8 56) Lwξ t0ξ) t0ξ h9ξ) - (zd_ru (zRc V 8 56) Lwξ t0ξ (zd_pw (zd_ru (zRc V 8 56) Lwξ t0ξ) t0ξ h9ξ) h9ξ))) = (zd_pw (zd_ru (zRc V 8 56) Lwξ t0ξ) t0ξ (h9ξ + 1)) := by rw [hpw1ξ]; omega
          generalize hGq9ξ : Gr526 = Gq9
          rw [hl9ξ]
          subst hGq9ξ
          refine zp_drop (L' := [(5, 0, ((h9ξ : Int) + 1)), (4, 0, (zd_pw (zd_ru (zRc V 8 56) Lwξ t0ξ) t0ξ (h9ξ + 1))), (0, 2, (A 5 : Int)), (1, 2, (A 1 : Int)), (2, 2, (A 8 : Int)), (3, 0, t0ξ)]) (by simp) ?_
          refine ih (h9ξ + 1) Mr526 Gr526 (by omega) hMr526ξ hVr526ξ hAbr526ξ ((Eq.trans (hMkr526ξ 5 1 (by decide) (by decide)) ((zp_set_ne (Or.inl (by decide))).trans (h51ξ)))) ((Eq.trans (hMkr526ξ 5 2 (by decide) (by decide)) ((zp_set_ne (Or.inl (by decide))).trans (h52ξ)))) (fun h hhξ => ?_)
          by_cases e9ξ : h = h9ξ
          · rw [e9ξ]
            exact (hMkr526ξ 68 _ (by decide) (by decide)).trans zp_set_self
          · exact (hMkr526ξ 68 _ (by decide) (by decide)).trans ((zp_set_ne (Or.inr (by omega))).trans (hpwξ h (by omega)))
  refine zp_drop (L' := [(5, 0, 0), (4, 0, (t0ξ * 100)), (0, 2, (A 5 : Int)), (1, 2, (A 1 : Int)), (2, 2, (A 8 : Int)), (3, 0, t0ξ)]) (by simp) ?_
  have h00ξ : (t0ξ * 100) = zd_pw (zd_ru (zRc V 8 56) Lwξ t0ξ) t0ξ 0 := by
    show _ = 100 * t0ξ
    omega
  rw [h00ξ]
  exact loop 24 0 Mab Gab (by omega) hMabξ hVabξ hAbabξ hd51ξ hd52ξ (fun h hhξ => absurd hhξ (Nat.not_lt_zero h))
noncomputable def zK_pas8 : zk_K := (zt_mn 131, prog_2_method_3_code, 5, (Option.none : Option Jvm.ClassFile.FieldType), 1, 0, [(2, 0, 0, 0), (2, 10, 0, 0), (2, 2, 0, 0), (0, 0, (-2147483648), 2147483647)], [(none, [])], zUC, (5, 300, 0, 0))
noncomputable def zφ_pas8 (A : Nat → Nat) (Y : List (Nat × Nat)) (F : List (Nat × Nat × Nat)) (V : Nat → Nat → Int) (n1ξ npξ : Nat) (t0ξ : Int) (Lwξ : List yK) : (Nat → Option Nat) → (Nat → Nat → Int) → List Int → Prop := fun P G ps => zMVc A Y F V P G ∧ ps.getD 0 0 = (A 5 : Int) ∧ zMc Y F ∧ (ps.getD 1 0) = (A 1 : Int) ∧ (ps.getD 2 0) = (A 8 : Int) ∧ t0ξ = (ps.getD 3 0) ∧ zLF A Y F V Lwξ ∧ zc_ok V 8 56 n1ξ npξ ∧ 0 ≤ t0ξ ∧ t0ξ ≤ 12
noncomputable def zψ_pas8 (A : Nat → Nat) (Y : List (Nat × Nat)) (F : List (Nat × Nat × Nat)) (V : Nat → Nat → Int) (n1ξ npξ : Nat) (t0ξ : Int) (Lwξ : List yK) : (Nat → Option Nat) → (Nat → Nat → Int) → List Int → (Nat → Option Nat) → (Nat → Nat → Int) → Int → Prop := fun P G ps P' G' rn => P' = P ∧ zMDs A Y F V Lwξ 8 56 t0ξ (zd_hr (zRc V 8 56) n1ξ npξ (zd_sp (zRc V 8 56) Lwξ t0ξ) (zd_ru (zRc V 8 56) Lwξ t0ξ) t0ξ 24) P' G'
theorem zX_pas8 {l : Launch} {w : zk_W} (hWξ : zh_W w) (A : Nat → Nat) (Y : List (Nat × Nat)) (F : List (Nat × Nat × Nat)) (V : Nat → Nat → Int) (n1ξ npξ : Nat) (t0ξ : Int) (Lwξ : List yK) : zk_metX l w zt_dv zt_TB zK_pas8 (zp_A (zφ_pas8 A Y F V n1ξ npξ t0ξ Lwξ)) (zp_B (zψ_pas8 A Y F V n1ξ npξ t0ξ Lwξ)) ∧ zk_cok w zt_TB zK_pas8 := by
  refine zp_methX (cn := "WoundTown$Day") zp_lkallDy hWξ (pl := 1109) rfl (by decide +kernel) (fun p e R s m args below meth c Q u hx hb hEξ hQξ hU5ξ heffξ hnLξ hokξ hφ => ?_)
  have hwξ := hWξ.1
  obtain ⟨p0ξ, p1ξ, p2ξ, p3ξ, hpsξ, tk0, tk1, tk2, tk3⟩ := zp_ps4 hokξ
  have hrmξ : zk_Kr (zk_ev (zt_types, zp_lkDy, zt_dv, [], [], zp_lcDy, zK_pas8)) = zk_Kr zK_pas8 := rfl
  rw [hpsξ] at hφ ⊢
  have hφ : zMVc A Y F V u.1 (zp_n u.2.1) ∧ p0ξ = (A 5 : Int) ∧ zMc Y F ∧ p1ξ = (A 1 : Int) ∧ p2ξ = (A 8 : Int) ∧ t0ξ = p3ξ ∧ zLF A Y F V Lwξ ∧ zc_ok V 8 56 n1ξ npξ ∧ 0 ≤ t0ξ ∧ t0ξ ≤ 12 := hφ
  obtain ⟨⟨M, hMξ, hVξ, hSbξ⟩, rfl, hYFξ, rfl, rfl, rfl, hlwξ, hokξ, ht0ξ, ht12ξ⟩ := hφ
  have hYF0ξ := hYFξ
  obtain ⟨hYbξ, hFbξ, hFxξ, -⟩ := hYFξ
  have hi3ξ := zp_int tk3
  show zp_J p l e R s m args below meth c Q w u [] 0 [(0, 2, (A 5 : Int)), (1, 2, (A 1 : Int)), (2, 2, (A 8 : Int)), (3, 0, t0ξ)] [] u.1 (zp_n u.2.1)
  obtain ⟨hn10ξ, hnp6ξ, hn1ξ, hnpξ, hDwξ, hDpξ⟩ := hokξ.1
  have hn1ξ : V 1 3 = (n1ξ : Int) := hn1ξ
  have hnpξ : V 1 1 = (npξ : Int) := hnpξ
  refine zp_load (pc := 0) hx hb (zd_X0_pass (0, .aload_n 0, 1, 0, []) (List.mem_of_getElem? (i := 0) rfl)) rfl (j := 0) rfl ?_
  refine zp_load (pc := 1) hx hb (zd_X0_pass (1, .aload_n 1, 1, 0, []) (List.mem_of_getElem? (i := 1) rfl)) rfl (j := 1) rfl ?_
  refine zp_load (pc := 2) hx hb (zd_X0_pass (2, .aload_n 2, 1, 0, []) (List.mem_of_getElem? (i := 2) rfl)) rfl (j := 2) rfl ?_
  refine zp_load (pc := 3) hx hb (zd_X0_pass (3, .iload_n 3, 1, 0, []) (List.mem_of_getElem? (i := 3) rfl)) rfl (j := 3) rfl ?_
  refine zp_call (pc := 4) (how := 0) (idx := 66) (mi := 105) (S := []) hx hb hEξ hwξ heffξ hrmξ (zX_beg8 hWξ A Y F V n1ξ npξ t0ξ Lwξ) rfl (j := 0) rfl rfl (by decide +kernel) (zd_X0_pass (4, .invokevirtual 66, 3, 0, []) (List.mem_of_getElem? (i := 4) rfl)) [(A 5 : Int), (A 1 : Int), (A 8 : Int), t0ξ] rfl ⟨zp_o2 (zM_P hMξ (hYbξ _ (List.mem_of_getElem? (i := 5) rfl))), zp_o2 (zM_P hMξ (hYbξ _ (List.mem_of_getElem? (i := 1) rfl))), zp_o2 (zM_P hMξ (hYbξ _ (List.mem_of_getElem? (i := 8) rfl))), zp_o0 (by omega) (by omega) (by omega) (by omega), trivial⟩ (Nat.le_of_ble_eq_true rfl) ⟨⟨M, hMξ, hVξ, trivial⟩, rfl, hYF0ξ, rfl, rfl, rfl, hlwξ, hokξ, ht0ξ, ht12ξ⟩ (fun al halξ rnbg Pbg Gbg hextbgξ hfrbgξ hokbgξ hcsbgξ hpsibgξ => ?_)
  obtain rfl := List.mem_singleton.mp halξ
  obtain ⟨hPebgξ, Mbg, hMbgξ, hVbgξ, hDsbgξ⟩ := hpsibgξ
  subst hPebgξ
  clear hextbgξ hfrbgξ hokbgξ hcsbgξ
  refine zp_const (pc := 7) hx hb (zd_X0_pass (7, .iconst 0, 1, 0, []) (List.mem_of_getElem? (i := 5) rfl)) rfl rfl ?_
  refine zp_store (L' := [(4, 0, 0), (0, 2, (A 5 : Int)), (1, 2, (A 1 : Int)), (2, 2, (A 8 : Int)), (3, 0, t0ξ)]) (pc := 8) hx hb hnLξ (zd_X0_pass (8, .istore 4, 2, 0, []) (List.mem_of_getElem? (i := 6) rfl)) rfl rfl rfl ?_
  have loop : ∀ (r9ξ h9ξ : Nat) (M : Nat → Nat → Int) (G : Nat → Nat → Int), r9ξ + h9ξ = 24 → zM A Y F M u.1 G → (∀ o k, zNc o → M o k = V o k) → zDst A Y F V Lwξ 8 56 t0ξ (zd_hr (zRc V 8 56) n1ξ npξ (zd_sp (zRc V 8 56) Lwξ t0ξ) (zd_ru (zRc V 8 56) Lwξ t0ξ) t0ξ h9ξ) M → zp_J p l e R s m args below meth c Q w u [] 10 [(4, 0, (h9ξ : Int)), (0, 2, (A 5 : Int)), (1, 2, (A 1 : Int)), (2, 2, (A 8 : Int)), (3, 0, t0ξ)] [] u.1 G := by
    intro r9ξ
    induction r9ξ with
    | zero =>
      intro h9ξ M G hrξ hMξ hVξ hDsξ
      refine zp_load (pc := 10) hx hb (zd_X0_pass (10, .iload 4, 2, 0, []) (List.mem_of_getElem? (i := 7) rfl)) rfl (j := 0) rfl ?_
      refine zp_const (pc := 12) hx hb (zd_X0_pass (12, .bipush 24, 2, 0, []) (List.mem_of_getElem? (i := 8) rfl)) rfl rfl ?_
      refine zp_icmp (pc := 14) (tgt := 29) hx hb (zd_X0_pass (14, .if_icmp .ge 15, 3, 0, []) (List.mem_of_getElem? (i := 9) rfl)) rfl (fun (hc527ξ : 24 ≤ (h9ξ : Int)) => ?_) (fun (hc527ξ : ¬ (24 ≤ (h9ξ : Int))) => ?_)
      · obtain rfl : h9ξ = 24 := by omega
        refine zp_vret (pc := 29) hx hb hEξ hQξ hU5ξ rfl (by decide) (zd_X0_pass (29, .return_, 1, 0, []) (List.mem_of_getElem? (i := 15) rfl)) (j := 0) rfl ?_
        rw [hpsξ]
        refine ⟨rfl, ?_⟩
        exact ⟨M, hMξ, hVξ, hDsξ⟩
      · exfalso
        omega
    | succ r9ξ ih =>
      intro h9ξ M G hrξ hMξ hVξ hDsξ
      refine zp_load (pc := 10) hx hb (zd_X0_pass (10, .iload 4, 2, 0, []) (List.mem_of_getElem? (i := 7) rfl)) rfl (j := 0) rfl ?_
      refine zp_const (pc := 12) hx hb (zd_X0_pass (12, .bipush 24, 2, 0, []) (List.mem_of_getElem? (i := 8) rfl)) rfl rfl ?_
      refine zp_icmp (pc := 14) (tgt := 29) hx hb (zd_X0_pass (14, .if_icmp .ge 15, 3, 0, []) (List.mem_of_getElem? (i := 9) rfl)) rfl (fun (hc528ξ : 24 ≤ (h9ξ : Int)) => ?_) (fun (hc528ξ : ¬ (24 ≤ (h9ξ : Int))) => ?_)
      · exfalso
        omega
      · refine zp_load (pc := 17) hx hb (zd_X0_pass (17, .aload_n 0, 1, 0, []) (List.mem_of_getElem? (i := 10) rfl)) rfl (j := 1) rfl ?_
        refine zp_load (pc := 18) hx hb (zd_X0_pass (18, .iload 4, 2, 0, []) (List.mem_of_getElem? (i := 11) rfl)) rfl (j := 0) rfl ?_
        refine zp_call (pc := 20) (how := 0) (idx := 69) (mi := 108) (S := []) hx hb hEξ hwξ heffξ hrmξ (zX_psh8 hWξ A Y F M V n1ξ npξ t0ξ Lwξ h9ξ) rfl (j := 4) rfl rfl (by decide +kernel) (zd_X0_pass (20, .invokevirtual 69, 3, 0, []) (List.mem_of_getElem? (i := 12) rfl)) [(A 5 : Int), (h9ξ : Int)] rfl ⟨zp_o2 (zM_P hMξ (hYbξ _ (List.mem_of_getElem? (i := 5) rfl))), zp_o0 (by omega) (by omega) (by omega) (by omega), trivial⟩ (Nat.le_of_ble_eq_true rfl) ⟨hMξ, rfl, hYF0ξ, hVξ, hDsξ, rfl, by omega, hokξ, ht0ξ, ht12ξ⟩ (fun al halξ rnps Pps Gps hextpsξ hfrpsξ hokpsξ hcspsξ hpsipsξ => ?_)
        obtain rfl := List.mem_singleton.mp halξ
        obtain ⟨hPepsξ, Mps, hMpsξ, hVpsξ, hDspsξ⟩ := hpsipsξ
        subst hPepsξ
        clear hextpsξ hfrpsξ hokpsξ hcspsξ
        refine zp_iinc (L' := [(4, 0, ((h9ξ : Int) + 1)), (0, 2, (A 5 : Int)), (1, 2, (A 1 : Int)), (2, 2, (A 8 : Int)), (3, 0, t0ξ)]) (n := ((h9ξ : Int) + 1)) (pc := 23) hx hb hnLξ (zd_X0_pass (23, .iinc 4 1, 3, 0, []) (List.mem_of_getElem? (i := 13) rfl)) (j := 0) rfl (by omega) (zp_r0 (by omega) (by omega)) rfl rfl ?_
        refine zp_goto (tgt := 10) (pc := 26) hx hb (zd_X0_pass (26, .goto (-16), 3, 0, []) (List.mem_of_getElem? (i := 14) rfl)) rfl ?_
        refine zp_drop (L' := [(4, 0, ((h9ξ : Int) + 1)), (0, 2, (A 5 : Int)), (1, 2, (A 1 : Int)), (2, 2, (A 8 : Int)), (3, 0, t0ξ)]) (by simp) ?_
        exact ih (h9ξ + 1) Mps Gps (by omega) hMpsξ hVpsξ hDspsξ
  exact loop 24 0 Mbg Gbg (by omega) hMbgξ hVbgξ hDsbgξ
