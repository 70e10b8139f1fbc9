/-! part i7: the class over logical cells: run, ends, hourξ -/
/-- a day's end -/
noncomputable def zc_X (V : Nat → Nat → Int) (g b n npξ : Nat) (L : List yK) (t : Int) : (Nat → Int) × (Nat → Int) := zd_hr (zRc V g b) n npξ (zd_sp (zRc V g b) L t) (zd_ru (zRc V g b) L t) t 24
theorem zite {c : Prop} [Decidable c] {a a' b b' : Int} (h1ξ : c → a = a') (h2ξ : ¬ c → b = b') : (if c then a else b) = if c then a' else b' := by
  by_cases h : c
  · rw [if_pos h, if_pos h]
    exact h1ξ h
  · rw [if_neg h, if_neg h]
    exact h2ξ h
theorem zRc_f {V V' : Nat → Nat → Int} {g b : Nat} (hVξ : ∀ o k, (o = 1 ∨ o = g ∨ (30 ≤ o ∧ o < 40) ∨ (b ≤ o ∧ o < b + 3)) → V' o k = V o k) : zRc V' g b = zRc V g b := by
  funext j
  unfold zRc
  repeat' (refine zite (fun _ => ?_) (fun _ => ?_))
  all_goals exact hVξ _ _ (by omega)
theorem zc_ok_f {V V' : Nat → Nat → Int} {g b n npξ : Nat} (h : zc_ok V g b n npξ) (hVξ : ∀ o k, (o = 1 ∨ o = g ∨ (30 ≤ o ∧ o < 40) ∨ (b ≤ o ∧ o < b + 3)) → V' o k = V o k) : zc_ok V' g b n npξ := by
  unfold zc_ok at h ⊢
  rw [zRc_f hVξ]
  exact h
theorem zLm {L : List Nat} {o g b : Nat} (h : o = 1 ∨ o = g ∨ (30 ≤ o ∧ o < 40) ∨ (b ≤ o ∧ o < b + 3)) (hLξ : ∀ x ∈ L, ¬ (x = 1 ∨ x = g ∨ (30 ≤ x ∧ x < 40) ∨ (b ≤ x ∧ x < b + 3))) : o ∉ L := fun h8ξ => hLξ o h8ξ h
noncomputable def zf_rudc (V : Nat → Nat → Int) (n1ξ npξ : Nat) (Lwξ : List yK) : Int × (Nat → Nat → Int) := if (V 2 5) = (-1) then ((-3), V) else if (V 2 6) < 999 then ((zc_ct (zc_X (zf_kep3 V 2).2 2 50 n1ξ npξ Lwξ (V 2 5)) n1ξ), (zf_slp2 (zc_put (zf_kep3 V 2).2 52 (zc_X (zf_kep3 V 2).2 2 50 n1ξ npξ Lwξ (V 2 5)))).2) else ((-3), V)
noncomputable def zK_rudc : zk_K := (zt_mn 103, prog_1_method_27_code, 2, (Option.some Jvm.ClassFile.FieldType.int), 1, 11, [(2, 12, 0, 0)], [(some (0, 0, (-2147483648), 2147483647), [])], zUC, (6, 360, 0, 0))
noncomputable def zφ_rudc (A : Nat → Nat) (Y : List (Nat × Nat)) (F : List (Nat × Nat × Nat)) (V : Nat → Nat → Int) (n1ξ npξ : Nat) (Lwξ : List yK) : (Nat → Option Nat) → (Nat → Nat → Int) → List Int → Prop := fun P G ps => zMVc A Y F V P G ∧ ps.getD 0 0 = (A 0 : Int) ∧ zMc Y F ∧ zLF A Y F V Lwξ ∧ zc_ok V 2 50 n1ξ npξ ∧ (-1 ≤ V 2 5 ∧ V 2 5 ≤ 12) ∧ (0 ≤ V 2 6 ∧ V 2 6 ≤ 9999) ∧ ∀ j, j < 6 → 0 ≤ V 50 (2000 + j) ∧ V 50 (2000 + j) ≤ 9
noncomputable def zψ_rudc (A : Nat → Nat) (Y : List (Nat × Nat)) (F : List (Nat × Nat × Nat)) (V : Nat → Nat → Int) (n1ξ npξ : Nat) (Lwξ : List yK) : (Nat → Option Nat) → (Nat → Nat → Int) → List Int → (Nat → Option Nat) → (Nat → Nat → Int) → Int → Prop := fun P G ps P' G' rn => P' = P ∧ zMVc A Y F (zf_rudc V n1ξ npξ Lwξ).2 P' G' ∧ rn = (zf_rudc V n1ξ npξ Lwξ).1
theorem zX_rudc {l : Launch} {w : zk_W} (hWξ : zh_W w) (A : Nat → Nat) (Y : List (Nat × Nat)) (F : List (Nat × Nat × Nat)) (V : Nat → Nat → Int) (n1ξ npξ : Nat) (Lwξ : List yK) : zk_metX l w zt_dv zt_TB zK_rudc (zp_A (zφ_rudc A Y F V n1ξ npξ Lwξ)) (zp_B (zψ_rudc A Y F V n1ξ npξ Lwξ)) ∧ zk_cok w zt_TB zK_rudc := by
  refine zp_methX (cn := "WoundTown") zp_lkallW hWξ (pl := 989) rfl (by decide +kernel) (fun p e R s m args below meth c Q u hx hb hEξ hQξ hU5ξ heffξ hnLξ hokξ hφ => ?_)
  have hwξ := hWξ.1
  obtain ⟨p0ξ, hpsξ, tk0⟩ := zp_ps1 hokξ
  have hrmξ : zk_Kr (zk_ev (zt_types, zp_lkW, zt_dv, [], [], zp_lcW, zK_rudc)) = zk_Kr zK_rudc := rfl
  rw [hpsξ] at hφ ⊢
  have hφ : zMVc A Y F V u.1 (zp_n u.2.1) ∧ p0ξ = (A 0 : Int) ∧ zMc Y F ∧ zLF A Y F V Lwξ ∧ zc_ok V 2 50 n1ξ npξ ∧ (-1 ≤ V 2 5 ∧ V 2 5 ≤ 12) ∧ (0 ≤ V 2 6 ∧ V 2 6 ≤ 9999) ∧ ∀ j, j < 6 → 0 ≤ V 50 (2000 + j) ∧ V 50 (2000 + j) ≤ 9 := hφ
  obtain ⟨⟨M, hMξ, hVξ, hSbξ⟩, rfl, hYFξ, hlwξ, hokξ, ⟨htr0ξ, htr1ξ⟩, ⟨hdy0ξ, hdy1ξ⟩, hoiξ⟩ := hφ
  have hYF0ξ := hYFξ
  obtain ⟨hYbξ, hFbξ, hFxξ, -⟩ := hYFξ
  show zp_J p l e R s m args below meth c Q w u [] 0 [(0, 2, (A 0 : Int))] [] u.1 (zp_n u.2.1)
  have hnbξ := hokξ.1.1
  refine zp_load (pc := 0) hx hb (zd_X11_runDay (0, .aload_n 0, 1, 0, []) (List.mem_of_getElem? (i := 0) rfl)) rfl (j := 0) rfl ?_
  refine zp_getf (n := (A 1 : Int)) (pc := 1) hx hb hEξ hwξ (zd_X11_runDay (1, .getfield 10, 3, 0, []) (List.mem_of_getElem? (i := 1) rfl)) (j := 50) rfl rfl rfl (zM_P hMξ (hYbξ _ (List.mem_of_getElem? (i := 0) rfl))) ((zM_G hMξ (hYbξ _ (List.mem_of_getElem? (i := 0) rfl)) 0).trans (zM_F hMξ (hFbξ _ (List.mem_of_getElem? (i := 0) rfl)))) ?_
  refine zp_getf (n := (A 2 : Int)) (pc := 4) hx hb hEξ hwξ (zd_X11_runDay (4, .getfield 135, 3, 0, []) (List.mem_of_getElem? (i := 2) rfl)) (j := 24) rfl rfl rfl (zM_P hMξ (hYbξ _ (List.mem_of_getElem? (i := 1) rfl))) ((zM_G hMξ (hYbξ _ (List.mem_of_getElem? (i := 1) rfl)) 18).trans (zM_F hMξ (hFbξ _ (List.mem_of_getElem? (i := 24) rfl)))) ?_
  refine zp_store (L' := [(1, 2, (A 2 : Int)), (0, 2, (A 0 : Int))]) (pc := 7) hx hb hnLξ (zd_X11_runDay (7, .astore_n 1, 1, 0, []) (List.mem_of_getElem? (i := 3) rfl)) rfl rfl rfl ?_
  refine zp_load (pc := 8) hx hb (zd_X11_runDay (8, .aload_n 1, 1, 0, []) (List.mem_of_getElem? (i := 4) rfl)) rfl (j := 0) rfl ?_
  refine zp_getf (n := (V 2 5)) (pc := 9) hx hb hEξ hwξ (zd_X11_runDay (9, .getfield 280, 3, 0, []) (List.mem_of_getElem? (i := 5) rfl)) (j := 7) rfl rfl rfl (zM_P hMξ (hYbξ _ (List.mem_of_getElem? (i := 2) rfl))) ((zM_G hMξ (hYbξ _ (List.mem_of_getElem? (i := 2) rfl)) 5).trans (hVξ 2 5 (by decide))) ?_
  refine zp_kn (k := 5) (a := (A 2)) hwξ (show zp_fd 2 5 = some (2, 0, 0, (-2147483648), 2147483647) from rfl) rfl (zM_P hMξ (hYbξ _ (List.mem_of_getElem? (i := 2) rfl))) (fun hf591ξ => ?_)
  have hf591bξ := zp_int hf591ξ
  rw [((zM_G hMξ (hYbξ _ (List.mem_of_getElem? (i := 2) rfl)) 5).trans (hVξ 2 5 (by decide)))] at hf591bξ
  clear hf591ξ
  refine zp_const (pc := 12) hx hb (zd_X11_runDay (12, .iconst (-1), 1, 0, []) (List.mem_of_getElem? (i := 6) rfl)) rfl rfl ?_
  refine zp_icmp (pc := 13) (tgt := 26) hx hb (zd_X11_runDay (13, .if_icmp .eq 13, 3, 0, []) (List.mem_of_getElem? (i := 7) rfl)) rfl (fun (hc592ξ : (V 2 5) = (-1)) => ?_) (fun (hc592ξ : ¬ ((V 2 5) = (-1))) => ?_)
  · refine zp_const (pc := 26) hx hb (zd_X11_runDay (26, .bipush (-3), 2, 0, []) (List.mem_of_getElem? (i := 12) rfl)) rfl rfl ?_
    refine zp_iret (pc := 28) (n := (-3)) hx hb hEξ hQξ hU5ξ rfl (by decide) (zd_X11_runDay (28, .ireturn, 1, 0, []) (List.mem_of_getElem? (i := 13) rfl)) (j := 0) rfl (zp_o0 (by omega) (by omega) (by omega) (by omega)) ?_
    rw [hpsξ]
    refine ⟨rfl, ?_⟩
    have hffξ : zf_rudc V n1ξ npξ Lwξ = ((-3), V) := by
      unfold zf_rudc
      rw [if_pos hc592ξ]
    show zMVc A Y F (zf_rudc V n1ξ npξ Lwξ).2 u.1 (zp_n u.2.1) ∧ (-3) = (zf_rudc V n1ξ npξ Lwξ).1
    rw [hffξ]
    exact ⟨⟨M, hMξ, hVξ, trivial⟩, rfl⟩
  · refine zp_load (pc := 16) hx hb (zd_X11_runDay (16, .aload_n 1, 1, 0, []) (List.mem_of_getElem? (i := 8) rfl)) rfl (j := 0) rfl ?_
    refine zp_getf (n := (V 2 6)) (pc := 17) hx hb hEξ hwξ (zd_X11_runDay (17, .getfield 178, 3, 0, []) (List.mem_of_getElem? (i := 9) rfl)) (j := 8) rfl rfl rfl (zM_P hMξ (hYbξ _ (List.mem_of_getElem? (i := 2) rfl))) ((zM_G hMξ (hYbξ _ (List.mem_of_getElem? (i := 2) rfl)) 6).trans (hVξ 2 6 (by decide))) ?_
    refine zp_kn (k := 6) (a := (A 2)) hwξ (show zp_fd 2 6 = some (2, 0, 0, (-2147483648), 2147483647) from rfl) rfl (zM_P hMξ (hYbξ _ (List.mem_of_getElem? (i := 2) rfl))) (fun hf593ξ => ?_)
    have hf593bξ := zp_int hf593ξ
    rw [((zM_G hMξ (hYbξ _ (List.mem_of_getElem? (i := 2) rfl)) 6).trans (hVξ 2 6 (by decide)))] at hf593bξ
    clear hf593ξ
    refine zp_const (pc := 20) hx hb (zd_X11_runDay (20, .sipush 999, 3, 0, []) (List.mem_of_getElem? (i := 10) rfl)) rfl rfl ?_
    refine zp_icmp (pc := 23) (tgt := 29) hx hb (zd_X11_runDay (23, .if_icmp .lt 6, 3, 0, []) (List.mem_of_getElem? (i := 11) rfl)) rfl (fun (hc594ξ : (V 2 6) < 999) => ?_) (fun (hc594ξ : ¬ ((V 2 6) < 999)) => ?_)
    · refine zp_load (pc := 29) hx hb (zd_X11_runDay (29, .aload_n 0, 1, 0, []) (List.mem_of_getElem? (i := 14) rfl)) rfl (j := 1) rfl ?_
      refine zp_getf (n := (A 3 : Int)) (pc := 30) hx hb hEξ hwξ (zd_X11_runDay (30, .getfield 23, 3, 0, []) (List.mem_of_getElem? (i := 15) rfl)) (j := 52) rfl rfl rfl (zM_P hMξ (hYbξ _ (List.mem_of_getElem? (i := 0) rfl))) ((zM_G hMξ (hYbξ _ (List.mem_of_getElem? (i := 0) rfl)) 2).trans (zM_F hMξ (hFbξ _ (List.mem_of_getElem? (i := 2) rfl)))) ?_
      refine zp_const (pc := 33) hx hb (zd_X11_runDay (33, .iconst 2, 1, 0, []) (List.mem_of_getElem? (i := 16) rfl)) rfl rfl ?_
      refine zp_load (pc := 34) hx hb (zd_X11_runDay (34, .aload_n 1, 1, 0, []) (List.mem_of_getElem? (i := 17) rfl)) rfl (j := 0) rfl ?_
      refine zp_call (pc := 35) (how := 0) (idx := 316) (mi := 88) (S := []) hx hb hEξ hwξ heffξ hrmξ (zX_kep3 hWξ A Y F V) rfl (j := 33) rfl rfl (by decide +kernel) (zd_X11_runDay (35, .invokevirtual 316, 3, 0, []) (List.mem_of_getElem? (i := 18) rfl)) [(A 3 : Int), 2, (A 2 : Int)] rfl ⟨zp_o2 (zM_P hMξ (hYbξ _ (List.mem_of_getElem? (i := 3) rfl))), zp_o0 (by omega) (by omega) (by omega) (by omega), zp_o2 (zM_P hMξ (hYbξ _ (List.mem_of_getElem? (i := 2) rfl))), trivial⟩ (Nat.le_of_ble_eq_true rfl) ⟨⟨M, hMξ, hVξ, trivial⟩, rfl, hYF0ξ, rfl⟩ (fun al halξ rna595ξ Pa595 Ga595 hexta595ξ hfra595ξ hoka595ξ hcsa595ξ hpsia595ξ => ?_)
      obtain rfl := List.mem_singleton.mp halξ
      obtain ⟨hPea595ξ, Ma595, hMa595ξ, hVa595ξ, hSba595ξ⟩ := hpsia595ξ
      subst hPea595ξ
      clear hexta595ξ hfra595ξ hcsa595ξ hoka595ξ
      have hVa595ξ : ∀ o k, zNc o → Ma595 o k = (zf_kep3 V 2).2 o k := hVa595ξ
      refine zp_load (pc := 38) hx hb (zd_X11_runDay (38, .aload_n 0, 1, 0, []) (List.mem_of_getElem? (i := 19) rfl)) rfl (j := 1) rfl ?_
      refine zp_getf (n := (A 5 : Int)) (pc := 39) hx hb hEξ hwξ (zd_X11_runDay (39, .getfield 39, 3, 0, []) (List.mem_of_getElem? (i := 20) rfl)) (j := 54) rfl rfl rfl (zM_P hMa595ξ (hYbξ _ (List.mem_of_getElem? (i := 0) rfl))) ((zM_G hMa595ξ (hYbξ _ (List.mem_of_getElem? (i := 0) rfl)) 4).trans (zM_F hMa595ξ (hFbξ _ (List.mem_of_getElem? (i := 4) rfl)))) ?_
      refine zp_load (pc := 42) hx hb (zd_X11_runDay (42, .aload_n 0, 1, 0, []) (List.mem_of_getElem? (i := 21) rfl)) rfl (j := 1) rfl ?_
      refine zp_getf (n := (A 1 : Int)) (pc := 43) hx hb hEξ hwξ (zd_X11_runDay (43, .getfield 10, 3, 0, []) (List.mem_of_getElem? (i := 22) rfl)) (j := 50) rfl rfl rfl (zM_P hMa595ξ (hYbξ _ (List.mem_of_getElem? (i := 0) rfl))) ((zM_G hMa595ξ (hYbξ _ (List.mem_of_getElem? (i := 0) rfl)) 0).trans (zM_F hMa595ξ (hFbξ _ (List.mem_of_getElem? (i := 0) rfl)))) ?_
      refine zp_load (pc := 46) hx hb (zd_X11_runDay (46, .aload_n 1, 1, 0, []) (List.mem_of_getElem? (i := 23) rfl)) rfl (j := 0) rfl ?_
      refine zp_call (pc := 47) (how := 0) (idx := 331) (mi := 104) (S := []) hx hb hEξ hwξ heffξ hrmξ (zX_rns2 hWξ A Y F (zf_kep3 V 2).2 n1ξ npξ (V 2 5) Lwξ) rfl (j := 40) rfl rfl (by decide +kernel) (zd_X11_runDay (47, .invokevirtual 331, 3, 0, []) (List.mem_of_getElem? (i := 24) rfl)) [(A 5 : Int), (A 1 : Int), (A 2 : Int)] rfl ⟨zp_o2 (zM_P hMa595ξ (hYbξ _ (List.mem_of_getElem? (i := 5) rfl))), zp_o2 (zM_P hMa595ξ (hYbξ _ (List.mem_of_getElem? (i := 1) rfl))), zp_o2 (zM_P hMa595ξ (hYbξ _ (List.mem_of_getElem? (i := 2) rfl))), trivial⟩ (Nat.le_of_ble_eq_true rfl) ⟨⟨Ma595, hMa595ξ, hVa595ξ, trivial⟩, rfl, hYF0ξ, rfl, rfl, (Eq.trans rfl (zf_kep3_f (by decide))), (zLF_f hlwξ (fun o k h8ξ => (zf_kep3_f (zLn h8ξ (by decide))))), (zc_ok_f hokξ (fun o k h8ξ => zf_kep3_f (zLm h8ξ (by decide)))), by omega, by omega, (by rw [(Eq.trans rfl (zf_kep3_f (by decide)))]; omega), (fun j hjξ => by rw [zf_kep3_f (by decide)]; exact hoiξ j hjξ)⟩ (fun al halξ rnrd Prd Grd hextrdξ hfrrdξ hokrdξ hcsrdξ hpsirdξ => ?_)
      obtain rfl := List.mem_singleton.mp halξ
      have hrrdξ := zp_int (hokrdξ _ rfl).1
      obtain ⟨hPerdξ, ⟨Mrd, hMrdξ, hVrdξ, hSbrdξ⟩, htrdξ⟩ := hpsirdξ
      subst hPerdξ
      clear hextrdξ hfrrdξ hcsrdξ hokrdξ
      have hVrdξ : ∀ o k, zNc o → Mrd o k = (zf_slp2 (zc_put (zf_kep3 V 2).2 52 (zc_X (zf_kep3 V 2).2 2 50 n1ξ npξ Lwξ (V 2 5)))).2 o k := hVrdξ
      have htrdξ : rnrd = zc_ct (zc_X (zf_kep3 V 2).2 2 50 n1ξ npξ Lwξ (V 2 5)) n1ξ := htrdξ
      have htrdξ := (Eq.symm htrdξ)
      subst htrdξ
      have hcbrdξ := zc_ctb (X := (zc_X (zf_kep3 V 2).2 2 50 n1ξ npξ Lwξ (V 2 5))) (w := n1ξ)
      refine zp_iret (pc := 50) (n := (zc_ct (zc_X (zf_kep3 V 2).2 2 50 n1ξ npξ Lwξ (V 2 5)) n1ξ)) hx hb hEξ hQξ hU5ξ rfl (by decide) (zd_X11_runDay (50, .ireturn, 1, 0, []) (List.mem_of_getElem? (i := 25) rfl)) (j := 0) rfl (zp_o0 (by omega) (by omega) (by omega) (by omega)) ?_
      rw [hpsξ]
      refine ⟨rfl, ?_⟩
      have hffξ : zf_rudc V n1ξ npξ Lwξ = ((zc_ct (zc_X (zf_kep3 V 2).2 2 50 n1ξ npξ Lwξ (V 2 5)) n1ξ), (zf_slp2 (zc_put (zf_kep3 V 2).2 52 (zc_X (zf_kep3 V 2).2 2 50 n1ξ npξ Lwξ (V 2 5)))).2) := by
        unfold zf_rudc
        rw [if_neg hc592ξ, if_pos hc594ξ]
      show zMVc A Y F (zf_rudc V n1ξ npξ Lwξ).2 u.1 Grd ∧ (zc_ct (zc_X (zf_kep3 V 2).2 2 50 n1ξ npξ Lwξ (V 2 5)) n1ξ) = (zf_rudc V n1ξ npξ Lwξ).1
      rw [hffξ]
      exact ⟨⟨Mrd, hMrdξ, hVrdξ, trivial⟩, rfl⟩
    · refine zp_const (pc := 26) hx hb (zd_X11_runDay (26, .bipush (-3), 2, 0, []) (List.mem_of_getElem? (i := 12) rfl)) rfl rfl ?_
      refine zp_iret (pc := 28) (n := (-3)) hx hb hEξ hQξ hU5ξ rfl (by decide) (zd_X11_runDay (28, .ireturn, 1, 0, []) (List.mem_of_getElem? (i := 13) rfl)) (j := 0) rfl (zp_o0 (by omega) (by omega) (by omega) (by omega)) ?_
      rw [hpsξ]
      refine ⟨rfl, ?_⟩
      have hffξ : zf_rudc V n1ξ npξ Lwξ = ((-3), V) := by
        unfold zf_rudc
        rw [if_neg hc592ξ, if_neg hc594ξ]
      show zMVc A Y F (zf_rudc V n1ξ npξ Lwξ).2 u.1 (zp_n u.2.1) ∧ (-3) = (zf_rudc V n1ξ npξ Lwξ).1
      rw [hffξ]
      exact ⟨⟨M, hMξ, hVξ, trivial⟩, rfl⟩
theorem zf_rudc_f {V : Nat → Nat → Int} {n1ξ npξ : Nat} {Lwξ : List yK} {o k : Nat} (h9ξ : o ∉ ([2, 3, 50, 51, 52, 62, 63] : List Nat)) : (zf_rudc V n1ξ npξ Lwξ).2 o k = V o k := by
  unfold zf_rudc
  by_cases hd2ξ : (V 2 5) = (-1)
  · rw [if_pos hd2ξ]
  · rw [if_neg hd2ξ]
    by_cases hd4ξ : (V 2 6) < 999
    · rw [if_pos hd4ξ]
      show (zf_slp2 (zc_put (zf_kep3 V 2).2 52 (zc_X (zf_kep3 V 2).2 2 50 n1ξ npξ Lwξ (V 2 5)))).2 o k = V o k
      exact ((zf_slp2_f (zc_sub h9ξ (by decide))).trans ((zc_put_o (zc_nin h9ξ (by decide))).trans (zf_kep3_f (zc_sub h9ξ (by decide)))))
    · rw [if_neg hd4ξ]
noncomputable def zf_runc (V : Nat → Nat → Int) (n1ξ npξ : Nat) (Lwξ : List yK) : Int × (Nat → Nat → Int) := (((zf_stc (zf_rudc V n1ξ npξ Lwξ).2 ((zf_rudc V n1ξ npξ Lwξ).1)).1), (zf_stc (zf_rudc V n1ξ npξ Lwξ).2 ((zf_rudc V n1ξ npξ Lwξ).1)).2)
noncomputable def zK_runc : zk_K := (zt_mn 123, prog_1_method_26_code, 1, (Option.some Jvm.ClassFile.FieldType.int), 1, 11, [(2, 12, 0, 0)], [(some (0, 0, (-2147483648), 2147483647), [])], zUC, (7, 420, 0, 0))
noncomputable def zφ_runc (A : Nat → Nat) (Y : List (Nat × Nat)) (F : List (Nat × Nat × Nat)) (V : Nat → Nat → Int) (n1ξ npξ : Nat) (Lwξ : List yK) : (Nat → Option Nat) → (Nat → Nat → Int) → List Int → Prop := fun P G ps => zMVc A Y F V P G ∧ ps.getD 0 0 = (A 0 : Int) ∧ zMc Y F ∧ zLF A Y F V Lwξ ∧ zc_ok V 2 50 n1ξ npξ ∧ (-1 ≤ V 2 5 ∧ V 2 5 ≤ 12) ∧ (0 ≤ V 2 6 ∧ V 2 6 ≤ 9999) ∧ ∀ j, j < 6 → 0 ≤ V 50 (2000 + j) ∧ V 50 (2000 + j) ≤ 9
noncomputable def zψ_runc (A : Nat → Nat) (Y : List (Nat × Nat)) (F : List (Nat × Nat × Nat)) (V : Nat → Nat → Int) (n1ξ npξ : Nat) (Lwξ : List yK) : (Nat → Option Nat) → (Nat → Nat → Int) → List Int → (Nat → Option Nat) → (Nat → Nat → Int) → Int → Prop := fun P G ps P' G' rn => P' = P ∧ zMVc A Y F (zf_runc V n1ξ npξ Lwξ).2 P' G' ∧ rn = (zf_runc V n1ξ npξ Lwξ).1
theorem zX_runc {l : Launch} {w : zk_W} (hWξ : zh_W w) (A : Nat → Nat) (Y : List (Nat × Nat)) (F : List (Nat × Nat × Nat)) (V : Nat → Nat → Int) (n1ξ npξ : Nat) (Lwξ : List yK) : zk_metX l w zt_dv zt_TB zK_runc (zp_A (zφ_runc A Y F V n1ξ npξ Lwξ)) (zp_B (zψ_runc A Y F V n1ξ npξ Lwξ)) ∧ zk_cok w zt_TB zK_runc := by
  refine zp_methX (cn := "WoundTown") zp_lkallW hWξ (pl := 1074) rfl (by decide +kernel) (fun p e R s m args below meth c Q u hx hb hEξ hQξ hU5ξ heffξ hnLξ hokξ hφ => ?_)
  have hwξ := hWξ.1
  obtain ⟨p0ξ, hpsξ, tk0⟩ := zp_ps1 hokξ
  have hrmξ : zk_Kr (zk_ev (zt_types, zp_lkW, zt_dv, [], [], zp_lcW, zK_runc)) = zk_Kr zK_runc := rfl
  rw [hpsξ] at hφ ⊢
  have hφ : zMVc A Y F V u.1 (zp_n u.2.1) ∧ p0ξ = (A 0 : Int) ∧ zMc Y F ∧ zLF A Y F V Lwξ ∧ zc_ok V 2 50 n1ξ npξ ∧ (-1 ≤ V 2 5 ∧ V 2 5 ≤ 12) ∧ (0 ≤ V 2 6 ∧ V 2 6 ≤ 9999) ∧ ∀ j, j < 6 → 0 ≤ V 50 (2000 + j) ∧ V 50 (2000 + j) ≤ 9 := hφ
  obtain ⟨⟨M, hMξ, hVξ, hSbξ⟩, rfl, hYFξ, hlwξ, hokξ, ⟨htr0ξ, htr1ξ⟩, ⟨hdy0ξ, hdy1ξ⟩, hoiξ⟩ := hφ
  have hYF0ξ := hYFξ
  obtain ⟨hYbξ, hFbξ, hFxξ, -⟩ := hYFξ
  show zp_J p l e R s m args below meth c Q w u [] 0 [(0, 2, (A 0 : Int))] [] u.1 (zp_n u.2.1)
  have hnbξ := hokξ.1.1
  refine zp_load (pc := 0) hx hb (zd_X11_run (0, .aload_n 0, 1, 0, []) (List.mem_of_getElem? (i := 0) rfl)) rfl (j := 0) rfl ?_
  refine zp_load (pc := 1) hx hb (zd_X11_run (1, .aload_n 0, 1, 0, []) (List.mem_of_getElem? (i := 1) rfl)) rfl (j := 0) rfl ?_
  refine zp_call (pc := 2) (how := 0) (idx := 273) (mi := 103) (S := [(2, (A 0 : Int))]) hx hb hEξ hwξ heffξ hrmξ (zX_rudc hWξ A Y F V n1ξ npξ Lwξ) rfl (j := 39) rfl rfl (by decide +kernel) (zd_X11_run (2, .invokevirtual 273, 3, 0, []) (List.mem_of_getElem? (i := 2) rfl)) [(A 0 : Int)] rfl ⟨zp_o2 (zM_P hMξ (hYbξ _ (List.mem_of_getElem? (i := 0) rfl))), trivial⟩ (Nat.le_of_ble_eq_true rfl) ⟨⟨M, hMξ, hVξ, trivial⟩, rfl, hYF0ξ, hlwξ, hokξ, ⟨htr0ξ, htr1ξ⟩, ⟨hdy0ξ, hdy1ξ⟩, hoiξ⟩ (fun al halξ rna596ξ Pa596 Ga596 hexta596ξ hfra596ξ hoka596ξ hcsa596ξ hpsia596ξ => ?_)
  obtain rfl := List.mem_singleton.mp halξ
  have hra596ξ := zp_int (hoka596ξ _ rfl).1
  obtain ⟨hPea596ξ, ⟨Ma596, hMa596ξ, hVa596ξ, hSba596ξ⟩, hta596ξ⟩ := hpsia596ξ
  subst hPea596ξ
  clear hexta596ξ hfra596ξ hcsa596ξ hoka596ξ
  have hVa596ξ : ∀ o k, zNc o → Ma596 o k = (zf_rudc V n1ξ npξ Lwξ).2 o k := hVa596ξ
  have hta596ξ : rna596ξ = ((zf_rudc V n1ξ npξ Lwξ).1) := hta596ξ
  have hta596ξ := (Eq.symm hta596ξ)
  subst hta596ξ
  refine zp_call (pc := 5) (how := 0) (idx := 305) (mi := 121) (S := []) hx hb hEξ hwξ heffξ hrmξ (zX_stc hWξ A Y F (zf_rudc V n1ξ npξ Lwξ).2) rfl (j := 43) rfl rfl (by decide +kernel) (zd_X11_run (5, .invokevirtual 305, 3, 0, []) (List.mem_of_getElem? (i := 3) rfl)) [(A 0 : Int), ((zf_rudc V n1ξ npξ Lwξ).1)] rfl ⟨zp_o2 (zM_P hMa596ξ (hYbξ _ (List.mem_of_getElem? (i := 0) rfl))), zp_o0 (by omega) (by omega) (by omega) (by omega), trivial⟩ (Nat.le_of_ble_eq_true rfl) ⟨⟨Ma596, hMa596ξ, hVa596ξ, trivial⟩, rfl, hYF0ξ⟩ (fun al halξ rna597ξ Pa597 Ga597 hexta597ξ hfra597ξ hoka597ξ hcsa597ξ hpsia597ξ => ?_)
  obtain rfl := List.mem_singleton.mp halξ
  have hra597ξ := zp_int (hoka597ξ _ rfl).1
  obtain ⟨hPea597ξ, ⟨Ma597, hMa597ξ, hVa597ξ, hSba597ξ⟩, hta597ξ⟩ := hpsia597ξ
  subst hPea597ξ
  clear hexta597ξ hfra597ξ hcsa597ξ hoka597ξ
  have hVa597ξ : ∀ o k, zNc o → Ma597 o k = (zf_stc (zf_rudc V n1ξ npξ Lwξ).2 ((zf_rudc V n1ξ npξ Lwξ).1)).2 o k := hVa597ξ
  have hta597ξ : rna597ξ = ((zf_stc (zf_rudc V n1ξ npξ Lwξ).2 ((zf_rudc V n1ξ npξ Lwξ).1)).1) := hta597ξ
  have hta597ξ := (Eq.symm hta597ξ)
  subst hta597ξ
  refine zp_iret (pc := 8) (n := ((zf_stc (zf_rudc V n1ξ npξ Lwξ).2 ((zf_rudc V n1ξ npξ Lwξ).1)).1)) hx hb hEξ hQξ hU5ξ rfl (by decide) (zd_X11_run (8, .ireturn, 1, 0, []) (List.mem_of_getElem? (i := 4) rfl)) (j := 0) rfl (zp_o0 (by omega) (by omega) (by omega) (by omega)) ?_
  rw [hpsξ]
  refine ⟨rfl, ?_⟩
  have hffξ : zf_runc V n1ξ npξ Lwξ = (((zf_stc (zf_rudc V n1ξ npξ Lwξ).2 ((zf_rudc V n1ξ npξ Lwξ).1)).1), (zf_stc (zf_rudc V n1ξ npξ Lwξ).2 ((zf_rudc V n1ξ npξ Lwξ).1)).2) := rfl
  show zMVc A Y F (zf_runc V n1ξ npξ Lwξ).2 u.1 Ga597 ∧ ((zf_stc (zf_rudc V n1ξ npξ Lwξ).2 ((zf_rudc V n1ξ npξ Lwξ).1)).1) = (zf_runc V n1ξ npξ Lwξ).1
  rw [hffξ]
  exact ⟨⟨Ma597, hMa597ξ, hVa597ξ, trivial⟩, rfl⟩
noncomputable def zf_endc (V : Nat → Nat → Int) (n1ξ npξ : Nat) (Lwξ : List yK) (p1ξ : Int) (p2ξ : Int) (p3ξ : Int) : Int × (Nat → Nat → Int) := if 0 ≤ p1ξ ∧ p1ξ ≤ 12 then if 0 ≤ p2ξ ∧ p2ξ < (V 1 3) ∧ p2ξ < 10 then if 0 ≤ p3ξ ∧ p3ξ ≤ 1 then if ¬ p3ξ = 0 then (((zc_X V 2 50 n1ξ npξ Lwξ p1ξ).1 p2ξ.toNat), V) else (((zc_X V 2 50 n1ξ npξ Lwξ p1ξ).2 p2ξ.toNat), V) else ((-1), V) else ((-1), V) else ((-1), V)
noncomputable def zK_endc : zk_K := (zt_mn 130, prog_1_method_32_code, 4, (Option.some Jvm.ClassFile.FieldType.int), 1, 11, [(2, 12, 0, 0), (0, 0, (-2147483648), 2147483647), (0, 0, (-2147483648), 2147483647), (0, 0, (-2147483648), 2147483647)], [(some (0, 0, (-2147483648), 2147483647), [])], zUC, (6, 360, 0, 0))
noncomputable def zφ_endc (A : Nat → Nat) (Y : List (Nat × Nat)) (F : List (Nat × Nat × Nat)) (V : Nat → Nat → Int) (n1ξ npξ : Nat) (Lwξ : List yK) : (Nat → Option Nat) → (Nat → Nat → Int) → List Int → Prop := fun P G ps => zMVc A Y F V P G ∧ ps.getD 0 0 = (A 0 : Int) ∧ zMc Y F ∧ zLF A Y F V Lwξ ∧ zc_ok V 2 50 n1ξ npξ
noncomputable def zψ_endc (A : Nat → Nat) (Y : List (Nat × Nat)) (F : List (Nat × Nat × Nat)) (V : Nat → Nat → Int) (n1ξ npξ : Nat) (Lwξ : List yK) : (Nat → Option Nat) → (Nat → Nat → Int) → List Int → (Nat → Option Nat) → (Nat → Nat → Int) → Int → Prop := fun P G ps P' G' rn => P' = P ∧ zMVc A Y F (zf_endc V n1ξ npξ Lwξ (ps.getD 1 0) (ps.getD 2 0) (ps.getD 3 0)).2 P' G' ∧ rn = (zf_endc V n1ξ npξ Lwξ (ps.getD 1 0) (ps.getD 2 0) (ps.getD 3 0)).1
theorem zX_endc {l : Launch} {w : zk_W} (hWξ : zh_W w) (A : Nat → Nat) (Y : List (Nat × Nat)) (F : List (Nat × Nat × Nat)) (V : Nat → Nat → Int) (n1ξ npξ : Nat) (Lwξ : List yK) : zk_metX l w zt_dv zt_TB zK_endc (zp_A (zφ_endc A Y F V n1ξ npξ Lwξ)) (zp_B (zψ_endc A Y F V n1ξ npξ Lwξ)) ∧ zk_cok w zt_TB zK_endc := by
  refine zp_methX (cn := "WoundTown") zp_lkallW hWξ (pl := 1105) rfl (by decide +kernel) (fun p e R s m args below meth c Q u hx hb hEξ hQξ hU5ξ heffξ hnLξ hokξ hφ => ?_)
  have hwξ := hWξ.1
  obtain ⟨p0ξ, p1ξ, p2ξ, p3ξ, hpsξ, tk0, tk1, tk2, tk3⟩ := zp_ps4 hokξ
  have hrmξ : zk_Kr (zk_ev (zt_types, zp_lkW, zt_dv, [], [], zp_lcW, zK_endc)) = zk_Kr zK_endc := rfl
  rw [hpsξ] at hφ ⊢
  have hφ : zMVc A Y F V u.1 (zp_n u.2.1) ∧ p0ξ = (A 0 : Int) ∧ zMc Y F ∧ zLF A Y F V Lwξ ∧ zc_ok V 2 50 n1ξ npξ := hφ
  obtain ⟨⟨M, hMξ, hVξ, hSbξ⟩, rfl, hYFξ, hlwξ, hokξ⟩ := hφ
  have hYF0ξ := hYFξ
  obtain ⟨hYbξ, hFbξ, hFxξ, -⟩ := hYFξ
  have hi1ξ := zp_int tk1
  have hi2ξ := zp_int tk2
  have hi3ξ := zp_int tk3
  show zp_J p l e R s m args below meth c Q w u [] 0 [(0, 2, (A 0 : Int)), (1, 0, p1ξ), (2, 0, p2ξ), (3, 0, p3ξ)] [] u.1 (zp_n u.2.1)
  refine zp_load (pc := 0) hx hb (zd_X11_ends (0, .iload_n 1, 1, 0, []) (List.mem_of_getElem? (i := 0) rfl)) rfl (j := 1) rfl ?_
  refine zp_call (pc := 1) (how := 1) (idx := 292) (mi := 86) (S := []) hx hb hEξ hwξ heffξ hrmξ (zX_art hWξ) rfl (j := 31) rfl rfl (by decide +kernel) (zd_X11_ends (1, .invokestatic 292, 3, 0, []) (List.mem_of_getElem? (i := 1) rfl)) [p1ξ] rfl ⟨zp_o0 (by omega) (by omega) (by omega) (by omega), trivial⟩ (Nat.le_of_ble_eq_true rfl) trivial (fun al halξ rnn598ξ Pn598 Gn598 hextn598ξ hfrn598ξ hokn598ξ hcsn598ξ hpsin598ξ => ?_)
  obtain rfl := List.mem_singleton.mp halξ
  have hrn598ξ := zp_int (hokn598ξ _ rfl).1
  obtain ⟨hPen598ξ, hGen598ξ, htn598ξ⟩ := hpsin598ξ
  rw [hPen598ξ, hGen598ξ]
  clear hextn598ξ hfrn598ξ hcsn598ξ hPen598ξ hGen598ξ
  have htn598ξ : rnn598ξ = 1 ↔ 0 ≤ p1ξ ∧ p1ξ ≤ 12 := htn598ξ
  refine zp_if (pc := 4) (tgt := 27) hx hb (zd_X11_ends (4, .ifCond .eq 23, 3, 0, []) (List.mem_of_getElem? (i := 2) rfl)) rfl (fun (hc599ξ : rnn598ξ = 0) => ?_) (fun (hc599ξ : ¬ (rnn598ξ = 0)) => ?_)
  · have hbf600ξ : ¬ (0 ≤ p1ξ ∧ p1ξ ≤ 12) := fun h9ξ => absurd ((Iff.mpr htn598ξ) h9ξ) (by omega)
    refine zp_const (pc := 27) hx hb (zd_X11_ends (27, .iconst (-1), 1, 0, []) (List.mem_of_getElem? (i := 13) rfl)) rfl rfl ?_
    refine zp_iret (pc := 28) (n := (-1)) hx hb hEξ hQξ hU5ξ rfl (by decide) (zd_X11_ends (28, .ireturn, 1, 0, []) (List.mem_of_getElem? (i := 14) rfl)) (j := 0) rfl (zp_o0 (by omega) (by omega) (by omega) (by omega)) ?_
    rw [hpsξ]
    refine ⟨rfl, ?_⟩
    have hffξ : zf_endc V n1ξ npξ Lwξ p1ξ p2ξ p3ξ = ((-1), V) := by
      unfold zf_endc
      rw [if_neg (fun h9ξ => absurd ((Iff.mpr htn598ξ) h9ξ) (by omega))]
    show zMVc A Y F (zf_endc V n1ξ npξ Lwξ p1ξ p2ξ p3ξ).2 u.1 (zp_n u.2.1) ∧ (-1) = (zf_endc V n1ξ npξ Lwξ p1ξ p2ξ p3ξ).1
    rw [hffξ]
    exact ⟨⟨M, hMξ, hVξ, trivial⟩, rfl⟩
  · have hbt601ξ := (Iff.mp htn598ξ) (by omega)
    refine zp_load (pc := 7) hx hb (zd_X11_ends (7, .aload_n 0, 1, 0, []) (List.mem_of_getElem? (i := 3) rfl)) rfl (j := 0) rfl ?_
    refine zp_getf (n := (A 1 : Int)) (pc := 8) hx hb hEξ hwξ (zd_X11_ends (8, .getfield 10, 3, 0, []) (List.mem_of_getElem? (i := 4) rfl)) (j := 50) rfl rfl rfl (zM_P hMξ (hYbξ _ (List.mem_of_getElem? (i := 0) rfl))) ((zM_G hMξ (hYbξ _ (List.mem_of_getElem? (i := 0) rfl)) 0).trans (zM_F hMξ (hFbξ _ (List.mem_of_getElem? (i := 0) rfl)))) ?_
    refine zp_load (pc := 11) hx hb (zd_X11_ends (11, .iload_n 2, 1, 0, []) (List.mem_of_getElem? (i := 5) rfl)) rfl (j := 2) rfl ?_
    refine zp_call (pc := 12) (how := 0) (idx := 150) (mi := 26) (S := []) hx hb hEξ hwξ heffξ hrmξ (zX_hwo1 hWξ A Y F M) rfl (j := 17) rfl rfl (by decide +kernel) (zd_X11_ends (12, .invokevirtual 150, 3, 0, []) (List.mem_of_getElem? (i := 6) rfl)) [(A 1 : Int), p2ξ] rfl ⟨zp_o2 (zM_P hMξ (hYbξ _ (List.mem_of_getElem? (i := 1) rfl))), zp_o0 (by omega) (by omega) (by omega) (by omega), trivial⟩ (Nat.le_of_ble_eq_true rfl) ⟨hMξ, rfl, hYF0ξ⟩ (fun al halξ rni602ξ Pi602 Gi602 hexti602ξ hfri602ξ hoki602ξ hcsi602ξ hpsii602ξ => ?_)
    obtain rfl := List.mem_singleton.mp halξ
    have hri602ξ := zp_int (hoki602ξ _ rfl).1
    obtain ⟨hPei602ξ, hGei602ξ, hti602ξ⟩ := hpsii602ξ
    rw [hPei602ξ, hGei602ξ]
    clear hexti602ξ hfri602ξ hcsi602ξ hPei602ξ hGei602ξ
    have hti602ξ : rni602ξ = 1 ↔ 0 ≤ p2ξ ∧ p2ξ < (V 1 3) ∧ p2ξ < 10 := by
      have h9ξ : rni602ξ = 1 ↔ 0 ≤ p2ξ ∧ p2ξ < M 1 3 ∧ p2ξ < 10 := hti602ξ
      rw [(hVξ 1 3 (by decide))] at h9ξ
      exact h9ξ
    refine zp_if (pc := 15) (tgt := 27) hx hb (zd_X11_ends (15, .ifCond .eq 12, 3, 0, []) (List.mem_of_getElem? (i := 7) rfl)) rfl (fun (hc603ξ : rni602ξ = 0) => ?_) (fun (hc603ξ : ¬ (rni602ξ = 0)) => ?_)
    · have hbf604ξ : ¬ (0 ≤ p2ξ ∧ p2ξ < (V 1 3) ∧ p2ξ < 10) := fun h9ξ => absurd ((Iff.mpr hti602ξ) h9ξ) (by omega)
      refine zp_const (pc := 27) hx hb (zd_X11_ends (27, .iconst (-1), 1, 0, []) (List.mem_of_getElem? (i := 13) rfl)) rfl rfl ?_
      refine zp_iret (pc := 28) (n := (-1)) hx hb hEξ hQξ hU5ξ rfl (by decide) (zd_X11_ends (28, .ireturn, 1, 0, []) (List.mem_of_getElem? (i := 14) rfl)) (j := 0) rfl (zp_o0 (by omega) (by omega) (by omega) (by omega)) ?_
      rw [hpsξ]
      refine ⟨rfl, ?_⟩
      have hffξ : zf_endc V n1ξ npξ Lwξ p1ξ p2ξ p3ξ = ((-1), V) := by
        unfold zf_endc
        rw [if_pos ((Iff.mp htn598ξ) (by omega)), if_neg (fun h9ξ => absurd ((Iff.mpr hti602ξ) h9ξ) (by omega))]
      show zMVc A Y F (zf_endc V n1ξ npξ Lwξ p1ξ p2ξ p3ξ).2 u.1 (zp_n u.2.1) ∧ (-1) = (zf_endc V n1ξ npξ Lwξ p1ξ p2ξ p3ξ).1
      rw [hffξ]
      exact ⟨⟨M, hMξ, hVξ, trivial⟩, rfl⟩
    · have hbt605ξ := (Iff.mp hti602ξ) (by omega)
      refine zp_load (pc := 18) hx hb (zd_X11_ends (18, .iload_n 3, 1, 0, []) (List.mem_of_getElem? (i := 8) rfl)) rfl (j := 3) rfl ?_
      refine zp_const (pc := 19) hx hb (zd_X11_ends (19, .iconst 0, 1, 0, []) (List.mem_of_getElem? (i := 9) rfl)) rfl rfl ?_
      refine zp_const (pc := 20) hx hb (zd_X11_ends (20, .iconst 1, 1, 0, []) (List.mem_of_getElem? (i := 10) rfl)) rfl rfl ?_
      refine zp_call (pc := 21) (how := 1) (idx := 107) (mi := 15) (S := []) hx hb hEξ hwξ heffξ hrmξ (zX_iwn hWξ) rfl (j := 10) rfl rfl (by decide +kernel) (zd_X11_ends (21, .invokestatic 107, 3, 0, []) (List.mem_of_getElem? (i := 11) rfl)) [p3ξ, 0, 1] rfl ⟨zp_o0 (by omega) (by omega) (by omega) (by omega), zp_o0 (by omega) (by omega) (by omega) (by omega), zp_o0 (by omega) (by omega) (by omega) (by omega), trivial⟩ (Nat.le_of_ble_eq_true rfl) trivial (fun al halξ rnn606ξ Pn606 Gn606 hextn606ξ hfrn606ξ hokn606ξ hcsn606ξ hpsin606ξ => ?_)
      obtain rfl := List.mem_singleton.mp halξ
      have hrn606ξ := zp_int (hokn606ξ _ rfl).1
      obtain ⟨hPen606ξ, hGen606ξ, htn606ξ⟩ := hpsin606ξ
      rw [hPen606ξ, hGen606ξ]
      clear hextn606ξ hfrn606ξ hcsn606ξ hPen606ξ hGen606ξ
      have htn606ξ : rnn606ξ = 1 ↔ 0 ≤ p3ξ ∧ p3ξ ≤ 1 := htn606ξ
      refine zp_if (pc := 24) (tgt := 29) hx hb (zd_X11_ends (24, .ifCond .ne 5, 3, 0, []) (List.mem_of_getElem? (i := 12) rfl)) rfl (fun (hc607ξ : ¬ rnn606ξ = 0) => ?_) (fun (hc607ξ : ¬ (¬ rnn606ξ = 0)) => ?_)
      · have hbt608ξ := (Iff.mp htn606ξ) (by omega)
        refine zp_load (pc := 29) hx hb (zd_X11_ends (29, .aload_n 0, 1, 0, []) (List.mem_of_getElem? (i := 15) rfl)) rfl (j := 0) rfl ?_
        refine zp_getf (n := (A 5 : Int)) (pc := 30) hx hb hEξ hwξ (zd_X11_ends (30, .getfield 39, 3, 0, []) (List.mem_of_getElem? (i := 16) rfl)) (j := 54) rfl rfl rfl (zM_P hMξ (hYbξ _ (List.mem_of_getElem? (i := 0) rfl))) ((zM_G hMξ (hYbξ _ (List.mem_of_getElem? (i := 0) rfl)) 4).trans (zM_F hMξ (hFbξ _ (List.mem_of_getElem? (i := 4) rfl)))) ?_
        refine zp_load (pc := 33) hx hb (zd_X11_ends (33, .aload_n 0, 1, 0, []) (List.mem_of_getElem? (i := 17) rfl)) rfl (j := 0) rfl ?_
        refine zp_getf (n := (A 1 : Int)) (pc := 34) hx hb hEξ hwξ (zd_X11_ends (34, .getfield 10, 3, 0, []) (List.mem_of_getElem? (i := 18) rfl)) (j := 50) rfl rfl rfl (zM_P hMξ (hYbξ _ (List.mem_of_getElem? (i := 0) rfl))) ((zM_G hMξ (hYbξ _ (List.mem_of_getElem? (i := 0) rfl)) 0).trans (zM_F hMξ (hFbξ _ (List.mem_of_getElem? (i := 0) rfl)))) ?_
        refine zp_load (pc := 37) hx hb (zd_X11_ends (37, .aload_n 0, 1, 0, []) (List.mem_of_getElem? (i := 19) rfl)) rfl (j := 0) rfl ?_
        refine zp_getf (n := (A 1 : Int)) (pc := 38) hx hb hEξ hwξ (zd_X11_ends (38, .getfield 10, 3, 0, []) (List.mem_of_getElem? (i := 20) rfl)) (j := 50) rfl rfl rfl (zM_P hMξ (hYbξ _ (List.mem_of_getElem? (i := 0) rfl))) ((zM_G hMξ (hYbξ _ (List.mem_of_getElem? (i := 0) rfl)) 0).trans (zM_F hMξ (hFbξ _ (List.mem_of_getElem? (i := 0) rfl)))) ?_
        refine zp_getf (n := (A 2 : Int)) (pc := 41) hx hb hEξ hwξ (zd_X11_ends (41, .getfield 135, 3, 0, []) (List.mem_of_getElem? (i := 21) rfl)) (j := 24) rfl rfl rfl (zM_P hMξ (hYbξ _ (List.mem_of_getElem? (i := 1) rfl))) ((zM_G hMξ (hYbξ _ (List.mem_of_getElem? (i := 1) rfl)) 18).trans (zM_F hMξ (hFbξ _ (List.mem_of_getElem? (i := 24) rfl)))) ?_
        refine zp_load (pc := 44) hx hb (zd_X11_ends (44, .iload_n 1, 1, 0, []) (List.mem_of_getElem? (i := 22) rfl)) rfl (j := 1) rfl ?_
        refine zp_call (pc := 45) (how := 0) (idx := 350) (mi := 131) (S := []) hx hb hEξ hwξ heffξ hrmξ (zX_pas2 hWξ A Y F V n1ξ npξ p1ξ Lwξ) rfl (j := 47) rfl rfl (by decide +kernel) (zd_X11_ends (45, .invokevirtual 350, 3, 0, []) (List.mem_of_getElem? (i := 23) rfl)) [(A 5 : Int), (A 1 : Int), (A 2 : Int), p1ξ] rfl ⟨zp_o2 (zM_P hMξ (hYbξ _ (List.mem_of_getElem? (i := 5) rfl))), zp_o2 (zM_P hMξ (hYbξ _ (List.mem_of_getElem? (i := 1) rfl))), zp_o2 (zM_P hMξ (hYbξ _ (List.mem_of_getElem? (i := 2) rfl))), zp_o0 (by omega) (by omega) (by omega) (by omega), trivial⟩ (Nat.le_of_ble_eq_true rfl) ⟨⟨M, hMξ, hVξ, trivial⟩, rfl, hYF0ξ, rfl, rfl, rfl, hlwξ, hokξ, by omega, by omega⟩ (fun al halξ rndy Pdy Gdy hextdyξ hfrdyξ hokdyξ hcsdyξ hpsidyξ => ?_)
        obtain rfl := List.mem_singleton.mp halξ
        obtain ⟨hPedyξ, Mdy, hMdyξ, hVdyξ, hDsdyξ⟩ := hpsidyξ
        subst hPedyξ
        clear hextdyξ hfrdyξ hokdyξ hcsdyξ
        have hXdyξ : zDX (zc_X V 2 50 n1ξ npξ Lwξ p1ξ) Mdy := hDsdyξ.2.2.2
        refine zp_load (pc := 48) hx hb (zd_X11_ends (48, .iload_n 3, 1, 0, []) (List.mem_of_getElem? (i := 24) rfl)) rfl (j := 3) rfl ?_
        refine zp_if (pc := 49) (tgt := 64) hx hb (zd_X11_ends (49, .ifCond .ne 15, 3, 0, []) (List.mem_of_getElem? (i := 25) rfl)) rfl (fun (hc610ξ : ¬ p3ξ = 0) => ?_) (fun (hc610ξ : ¬ (¬ p3ξ = 0)) => ?_)
        · refine zp_load (pc := 64) hx hb (zd_X11_ends (64, .aload_n 0, 1, 0, []) (List.mem_of_getElem? (i := 32) rfl)) rfl (j := 0) rfl ?_
          refine zp_getf (n := (A 5 : Int)) (pc := 65) hx hb hEξ hwξ (zd_X11_ends (65, .getfield 39, 3, 0, []) (List.mem_of_getElem? (i := 33) rfl)) (j := 54) rfl rfl rfl (zM_P hMdyξ (hYbξ _ (List.mem_of_getElem? (i := 0) rfl))) ((zM_G hMdyξ (hYbξ _ (List.mem_of_getElem? (i := 0) rfl)) 4).trans (zM_F hMdyξ (hFbξ _ (List.mem_of_getElem? (i := 4) rfl)))) ?_
          refine zp_getf (n := (A 69 : Int)) (pc := 68) hx hb hEξ hwξ (zd_X11_ends (68, .getfield 356, 3, 0, []) (List.mem_of_getElem? (i := 34) rfl)) (j := 30) rfl rfl rfl (zM_P hMdyξ (hYbξ _ (List.mem_of_getElem? (i := 5) rfl))) ((zM_G hMdyξ (hYbξ _ (List.mem_of_getElem? (i := 5) rfl)) 4).trans (zM_F hMdyξ (hFbξ _ (List.mem_of_getElem? (i := 45) rfl)))) ?_
          refine zp_load (pc := 71) hx hb (zd_X11_ends (71, .iload_n 2, 1, 0, []) (List.mem_of_getElem? (i := 35) rfl)) rfl (j := 2) rfl ?_
          refine zp_iald (j := p2ξ.toNat) (v := ((zc_X V 2 50 n1ξ npξ Lwξ p1ξ).1 p2ξ.toNat)) (pc := 72) hx hb hwξ (zd_X11_ends (72, .iaload, 1, 0, []) (List.mem_of_getElem? (i := 36) rfl)) (show zp_ia 1 15 = some (10, 0, 0, (-2147483648), 2147483647) from rfl) (zM_P hMdyξ (hYbξ _ (List.mem_of_getElem? (i := 47) rfl))) (by omega) (by omega) ((zM_G hMdyξ (hYbξ _ (List.mem_of_getElem? (i := 47) rfl)) (2000 + p2ξ.toNat)).trans (hXdyξ p2ξ.toNat (by omega)).1) (fun hk611ξ => ?_)
          have hk611bξ := zp_int hk611ξ
          clear hk611ξ
          refine zp_iret (pc := 73) (n := ((zc_X V 2 50 n1ξ npξ Lwξ p1ξ).1 p2ξ.toNat)) hx hb hEξ hQξ hU5ξ rfl (by decide) (zd_X11_ends (73, .ireturn, 1, 0, []) (List.mem_of_getElem? (i := 37) rfl)) (j := 0) rfl (zp_o0 (by omega) (by omega) (by omega) (by omega)) ?_
          rw [hpsξ]
          refine ⟨rfl, ?_⟩
          have hffξ : zf_endc V n1ξ npξ Lwξ p1ξ p2ξ p3ξ = (((zc_X V 2 50 n1ξ npξ Lwξ p1ξ).1 p2ξ.toNat), V) := by
            unfold zf_endc
            rw [if_pos ((Iff.mp htn598ξ) (by omega)), if_pos ((Iff.mp hti602ξ) (by omega)), if_pos ((Iff.mp htn606ξ) (by omega)), if_pos hc610ξ]
          show zMVc A Y F (zf_endc V n1ξ npξ Lwξ p1ξ p2ξ p3ξ).2 u.1 Gdy ∧ ((zc_X V 2 50 n1ξ npξ Lwξ p1ξ).1 p2ξ.toNat) = (zf_endc V n1ξ npξ Lwξ p1ξ p2ξ p3ξ).1
          rw [hffξ]
          exact ⟨⟨Mdy, hMdyξ, hVdyξ, trivial⟩, rfl⟩
        · refine zp_load (pc := 52) hx hb (zd_X11_ends (52, .aload_n 0, 1, 0, []) (List.mem_of_getElem? (i := 26) rfl)) rfl (j := 0) rfl ?_
          refine zp_getf (n := (A 5 : Int)) (pc := 53) hx hb hEξ hwξ (zd_X11_ends (53, .getfield 39, 3, 0, []) (List.mem_of_getElem? (i := 27) rfl)) (j := 54) rfl rfl rfl (zM_P hMdyξ (hYbξ _ (List.mem_of_getElem? (i := 0) rfl))) ((zM_G hMdyξ (hYbξ _ (List.mem_of_getElem? (i := 0) rfl)) 4).trans (zM_F hMdyξ (hFbξ _ (List.mem_of_getElem? (i := 4) rfl)))) ?_
          refine zp_getf (n := (A 70 : Int)) (pc := 56) hx hb hEξ hwξ (zd_X11_ends (56, .getfield 353, 3, 0, []) (List.mem_of_getElem? (i := 28) rfl)) (j := 31) rfl rfl rfl (zM_P hMdyξ (hYbξ _ (List.mem_of_getElem? (i := 5) rfl))) ((zM_G hMdyξ (hYbξ _ (List.mem_of_getElem? (i := 5) rfl)) 5).trans (zM_F hMdyξ (hFbξ _ (List.mem_of_getElem? (i := 46) rfl)))) ?_
          refine zp_load (pc := 59) hx hb (zd_X11_ends (59, .iload_n 2, 1, 0, []) (List.mem_of_getElem? (i := 29) rfl)) rfl (j := 2) rfl ?_
          refine zp_iald (j := p2ξ.toNat) (v := ((zc_X V 2 50 n1ξ npξ Lwξ p1ξ).2 p2ξ.toNat)) (pc := 60) hx hb hwξ (zd_X11_ends (60, .iaload, 1, 0, []) (List.mem_of_getElem? (i := 30) rfl)) (show zp_ia 1 16 = some (10, 0, 0, (-2147483648), 2147483647) from rfl) (zM_P hMdyξ (hYbξ _ (List.mem_of_getElem? (i := 48) rfl))) (by omega) (by omega) ((zM_G hMdyξ (hYbξ _ (List.mem_of_getElem? (i := 48) rfl)) (2000 + p2ξ.toNat)).trans (hXdyξ p2ξ.toNat (by omega)).2) (fun hk612ξ => ?_)
          have hk612bξ := zp_int hk612ξ
          clear hk612ξ
          refine zp_goto (tgt := 73) (pc := 61) hx hb (zd_X11_ends (61, .goto 12, 3, 0, []) (List.mem_of_getElem? (i := 31) rfl)) rfl ?_
          refine zp_iret (pc := 73) (n := ((zc_X V 2 50 n1ξ npξ Lwξ p1ξ).2 p2ξ.toNat)) hx hb hEξ hQξ hU5ξ rfl (by decide) (zd_X11_ends (73, .ireturn, 1, 0, []) (List.mem_of_getElem? (i := 37) rfl)) (j := 0) rfl (zp_o0 (by omega) (by omega) (by omega) (by omega)) ?_
          rw [hpsξ]
          refine ⟨rfl, ?_⟩
          have hffξ : zf_endc V n1ξ npξ Lwξ p1ξ p2ξ p3ξ = (((zc_X V 2 50 n1ξ npξ Lwξ p1ξ).2 p2ξ.toNat), V) := by
            unfold zf_endc
            rw [if_pos ((Iff.mp htn598ξ) (by omega)), if_pos ((Iff.mp hti602ξ) (by omega)), if_pos ((Iff.mp htn606ξ) (by omega)), if_neg hc610ξ]
          show zMVc A Y F (zf_endc V n1ξ npξ Lwξ p1ξ p2ξ p3ξ).2 u.1 Gdy ∧ ((zc_X V 2 50 n1ξ npξ Lwξ p1ξ).2 p2ξ.toNat) = (zf_endc V n1ξ npξ Lwξ p1ξ p2ξ p3ξ).1
          rw [hffξ]
          exact ⟨⟨Mdy, hMdyξ, hVdyξ, trivial⟩, rfl⟩
      · have hbf609ξ : ¬ (0 ≤ p3ξ ∧ p3ξ ≤ 1) := fun h9ξ => absurd ((Iff.mpr htn606ξ) h9ξ) (by omega)
        refine zp_const (pc := 27) hx hb (zd_X11_ends (27, .iconst (-1), 1, 0, []) (List.mem_of_getElem? (i := 13) rfl)) rfl rfl ?_
        refine zp_iret (pc := 28) (n := (-1)) hx hb hEξ hQξ hU5ξ rfl (by decide) (zd_X11_ends (28, .ireturn, 1, 0, []) (List.mem_of_getElem? (i := 14) rfl)) (j := 0) rfl (zp_o0 (by omega) (by omega) (by omega) (by omega)) ?_
        rw [hpsξ]
        refine ⟨rfl, ?_⟩
        have hffξ : zf_endc V n1ξ npξ Lwξ p1ξ p2ξ p3ξ = ((-1), V) := by
          unfold zf_endc
          rw [if_pos ((Iff.mp htn598ξ) (by omega)), if_pos ((Iff.mp hti602ξ) (by omega)), if_neg (fun h9ξ => absurd ((Iff.mpr htn606ξ) h9ξ) (by omega))]
        show zMVc A Y F (zf_endc V n1ξ npξ Lwξ p1ξ p2ξ p3ξ).2 u.1 (zp_n u.2.1) ∧ (-1) = (zf_endc V n1ξ npξ Lwξ p1ξ p2ξ p3ξ).1
        rw [hffξ]
        exact ⟨⟨M, hMξ, hVξ, trivial⟩, rfl⟩
noncomputable def zK_spd2 : zk_K := (zt_mn 129, prog_2_method_8_code, 3, (Option.some Jvm.ClassFile.FieldType.int), 1, 0, [(2, 0, 0, 0), (0, 0, (-2147483648), 2147483647), (0, 0, (-2147483648), 2147483647)], [(some (0, 0, (-2147483648), 2147483647), [])], [(27, 1001, 0), (28, 1001, 0)], (3, 180, 0, 0))
noncomputable def zφ_spd2 (A : Nat → Nat) (Y : List (Nat × Nat)) (F : List (Nat × Nat × Nat)) (M : Nat → Nat → Int) (V : Nat → Nat → Int) (n1ξ npξ : Nat) (t0ξ : Int) (Lwξ : List yK) (X : (Nat → Int) × (Nat → Int)) : (Nat → Option Nat) → (Nat → Nat → Int) → List Int → Prop := fun P G ps => zM A Y F M P G ∧ ps.getD 0 0 = (A 5 : Int) ∧ zMc Y F ∧ (∀ o k, zNc o → M o k = V o k) ∧ zDst A Y F V Lwξ 2 50 t0ξ X M ∧ zc_ok V 2 50 n1ξ npξ ∧ 0 ≤ t0ξ ∧ t0ξ ≤ 12
noncomputable def zψ_spd2 (A : Nat → Nat) (Y : List (Nat × Nat)) (F : List (Nat × Nat × Nat)) (M : Nat → Nat → Int) (V : Nat → Nat → Int) (n1ξ npξ : Nat) (t0ξ : Int) (Lwξ : List yK) (X : (Nat → Int) × (Nat → Int)) : (Nat → Option Nat) → (Nat → Nat → Int) → List Int → (Nat → Option Nat) → (Nat → Nat → Int) → Int → Prop := fun P G ps P' G' rn => P' = P ∧ ∃ M' : Nat → Nat → Int, zM A Y F M' P' G' ∧ (∀ o k, zNc o → M' o k = V o k) ∧ zDst A Y F V Lwξ 2 50 t0ξ X M' ∧ rn = (if (0 ≤ (ps.getD 1 0) ∧ (ps.getD 1 0) ≤ 23) ∧ (0 ≤ (ps.getD 2 0) ∧ (ps.getD 2 0) < V 1 1 ∧ (ps.getD 2 0) < 6) then zd_sp (zRc V 2 50) Lwξ t0ξ (zd_pw (zd_ru (zRc V 2 50) Lwξ t0ξ) t0ξ (ps.getD 1 0).toNat) (ps.getD 1 0).toNat (ps.getD 2 0).toNat else 0)
theorem zX_spd2 {l : Launch} {w : zk_W} (hWξ : zh_W w) (A : Nat → Nat) (Y : List (Nat × Nat)) (F : List (Nat × Nat × Nat)) (M : Nat → Nat → Int) (V : Nat → Nat → Int) (n1ξ npξ : Nat) (t0ξ : Int) (Lwξ : List yK) (X : (Nat → Int) × (Nat → Int)) : zk_metX l w zt_dv zt_TB zK_spd2 (zp_A (zφ_spd2 A Y F M V n1ξ npξ t0ξ Lwξ X)) (zp_B (zψ_spd2 A Y F M V n1ξ npξ t0ξ Lwξ X)) ∧ zk_cok w zt_TB zK_spd2 := by
  refine zp_methX (cn := "WoundTown$Day") zp_lkallDy hWξ (pl := 1099) rfl (by decide +kernel) (fun p e R s m args below meth c Q u hx hb hEξ hQξ hU5ξ heffξ hnLξ hokξ hφ => ?_)
  have hwξ := hWξ.1
  obtain ⟨p0ξ, p1ξ, p2ξ, hpsξ, tk0, tk1, tk2⟩ := zp_ps3 hokξ
  have hrmξ : zk_Kr (zk_ev (zt_types, zp_lkDy, zt_dv, [], [], zp_lcDy, zK_spd2)) = zk_Kr zK_spd2 := rfl
  rw [hpsξ] at hφ ⊢
  have hφ : zM A Y F M u.1 (zp_n u.2.1) ∧ p0ξ = (A 5 : Int) ∧ zMc Y F ∧ (∀ o k, zNc o → M o k = V o k) ∧ zDst A Y F V Lwξ 2 50 t0ξ X M ∧ zc_ok V 2 50 n1ξ npξ ∧ 0 ≤ t0ξ ∧ t0ξ ≤ 12 := hφ
  obtain ⟨hMξ, rfl, hYFξ, hVξ, hDsξ, hokξ, ht0ξ, ht12ξ⟩ := hφ
  have hYF0ξ := hYFξ
  obtain ⟨hYbξ, hFbξ, hFxξ, -⟩ := hYFξ
  have hi1ξ := zp_int tk1
  have hi2ξ := zp_int tk2
  show zp_J p l e R s m args below meth c Q w u [] 0 [(0, 2, (A 5 : Int)), (1, 0, p1ξ), (2, 0, p2ξ)] [] u.1 (zp_n u.2.1)
  have hDskξ := hDsξ
  obtain ⟨hAbξ, ⟨h51ξ, h52ξ⟩, hpwξ, hXξ⟩ := hDsξ
  obtain ⟨hn10ξ, hnp6ξ, hn1ξ, hnpξ, hDwξ, hDpξ⟩ := hokξ.1
  have hn1ξ : V 1 3 = (n1ξ : Int) := hn1ξ
  have hnpξ : V 1 1 = (npξ : Int) := hnpξ
  have hpwbξ := zd_pwb (R := (zRc V 2 50)) (L := Lwξ) ht0ξ ht12ξ (h := p1ξ.toNat)
  refine zp_load (pc := 0) hx hb (zd_X0_speed (0, .iload_n 1, 1, 0, []) (List.mem_of_getElem? (i := 0) rfl)) rfl (j := 1) rfl ?_
  refine zp_const (pc := 1) hx hb (zd_X0_speed (1, .iconst 0, 1, 0, []) (List.mem_of_getElem? (i := 1) rfl)) rfl rfl ?_
  refine zp_const (pc := 2) hx hb (zd_X0_speed (2, .bipush 23, 2, 0, []) (List.mem_of_getElem? (i := 2) rfl)) rfl rfl ?_
  refine zp_call (pc := 4) (how := 4) (idx := 122) (mi := 15) (S := []) hx hb hEξ hwξ heffξ hrmξ (zX_iwn hWξ) rfl (j := 11) rfl rfl (by decide +kernel) (zd_X0_speed (4, .invokestatic 122, 3, 0, []) (List.mem_of_getElem? (i := 3) rfl)) [p1ξ, 0, 23] rfl ⟨zp_o0 (by omega) (by omega) (by omega) (by omega), zp_o0 (by omega) (by omega) (by omega) (by omega), zp_o0 (by omega) (by omega) (by omega) (by omega), trivial⟩ (Nat.le_of_ble_eq_true rfl) trivial (fun al halξ rnn613ξ Pn613 Gn613 hextn613ξ hfrn613ξ hokn613ξ hcsn613ξ hpsin613ξ => ?_)
  obtain rfl := List.mem_singleton.mp halξ
  have hrn613ξ := zp_int (hokn613ξ _ rfl).1
  obtain ⟨hPen613ξ, hGen613ξ, htn613ξ⟩ := hpsin613ξ
  rw [hPen613ξ, hGen613ξ]
  clear hextn613ξ hfrn613ξ hcsn613ξ hPen613ξ hGen613ξ
  have htn613ξ : rnn613ξ = 1 ↔ 0 ≤ p1ξ ∧ p1ξ ≤ 23 := htn613ξ
  refine zp_if (pc := 7) (tgt := 21) hx hb (zd_X0_speed (7, .ifCond .eq 14, 3, 0, []) (List.mem_of_getElem? (i := 4) rfl)) rfl (fun (hc614ξ : rnn613ξ = 0) => ?_) (fun (hc614ξ : ¬ (rnn613ξ = 0)) => ?_)
  · have hbf615ξ : ¬ (0 ≤ p1ξ ∧ p1ξ ≤ 23) := fun h9ξ => absurd ((Iff.mpr htn613ξ) h9ξ) (by omega)
    refine zp_const (pc := 21) hx hb (zd_X0_speed (21, .iconst 0, 1, 0, []) (List.mem_of_getElem? (i := 10) rfl)) rfl rfl ?_
    refine zp_iret (pc := 22) (n := 0) hx hb hEξ hQξ hU5ξ rfl (by decide) (zd_X0_speed (22, .ireturn, 1, 0, []) (List.mem_of_getElem? (i := 11) rfl)) (j := 0) rfl (zp_o0 (by omega) (by omega) (by omega) (by omega)) ?_
    rw [hpsξ]
    refine ⟨rfl, M, hMξ, ?_⟩
    refine ⟨hVξ, hDskξ, ?_⟩
    show (0 : Int) = (if (0 ≤ p1ξ ∧ p1ξ ≤ 23) ∧ (0 ≤ p2ξ ∧ p2ξ < V 1 1 ∧ p2ξ < 6) then zd_sp (zRc V 2 50) Lwξ t0ξ (zd_pw (zd_ru (zRc V 2 50) Lwξ t0ξ) t0ξ p1ξ.toNat) p1ξ.toNat p2ξ.toNat else 0)
    exact (if_neg (by omega)).symm
  · have hbt616ξ := (Iff.mp htn613ξ) (by omega)
    refine zp_load (pc := 10) hx hb (zd_X0_speed (10, .aload_n 0, 1, 0, []) (List.mem_of_getElem? (i := 5) rfl)) rfl (j := 0) rfl ?_
    refine zp_getf (n := (A 1 : Int)) (pc := 11) hx hb hEξ hwξ (zd_X0_speed (11, .getfield 25, 3, 0, []) (List.mem_of_getElem? (i := 6) rfl)) (j := 18) rfl rfl rfl (zM_P hMξ (hYbξ _ (List.mem_of_getElem? (i := 5) rfl))) ((zM_G hMξ (hYbξ _ (List.mem_of_getElem? (i := 5) rfl)) 1).trans h51ξ) ?_
    refine zp_load (pc := 14) hx hb (zd_X0_speed (14, .iload_n 2, 1, 0, []) (List.mem_of_getElem? (i := 7) rfl)) rfl (j := 2) rfl ?_
    refine zp_call (pc := 15) (how := 0) (idx := 126) (mi := 22) (S := []) hx hb hEξ hwξ heffξ hrmξ (zX_hpe1 hWξ A Y F M) rfl (j := 12) rfl rfl (by decide +kernel) (zd_X0_speed (15, .invokevirtual 126, 3, 0, []) (List.mem_of_getElem? (i := 8) rfl)) [(A 1 : Int), p2ξ] rfl ⟨zp_o2 (zM_P hMξ (hYbξ _ (List.mem_of_getElem? (i := 1) rfl))), zp_o0 (by omega) (by omega) (by omega) (by omega), trivial⟩ (Nat.le_of_ble_eq_true rfl) ⟨hMξ, rfl, hYF0ξ⟩ (fun al halξ rni617ξ Pi617 Gi617 hexti617ξ hfri617ξ hoki617ξ hcsi617ξ hpsii617ξ => ?_)
    obtain rfl := List.mem_singleton.mp halξ
    have hri617ξ := zp_int (hoki617ξ _ rfl).1
    obtain ⟨hPei617ξ, hGei617ξ, hti617ξ⟩ := hpsii617ξ
    rw [hPei617ξ, hGei617ξ]
    clear hexti617ξ hfri617ξ hcsi617ξ hPei617ξ hGei617ξ
    have hti617ξ : rni617ξ = 1 ↔ 0 ≤ p2ξ ∧ p2ξ < (V 1 1) ∧ p2ξ < 6 := by
      have h9ξ : rni617ξ = 1 ↔ 0 ≤ p2ξ ∧ p2ξ < M 1 1 ∧ p2ξ < 6 := hti617ξ
      rw [(hVξ 1 1 (by decide))] at h9ξ
      exact h9ξ
    refine zp_if (pc := 18) (tgt := 23) hx hb (zd_X0_speed (18, .ifCond .ne 5, 3, 0, []) (List.mem_of_getElem? (i := 9) rfl)) rfl (fun (hc618ξ : ¬ rni617ξ = 0) => ?_) (fun (hc618ξ : ¬ (¬ rni617ξ = 0)) => ?_)
    · have hbt619ξ := (Iff.mp hti617ξ) (by omega)
      refine zp_load (pc := 23) hx hb (zd_X0_speed (23, .aload_n 0, 1, 0, []) (List.mem_of_getElem? (i := 12) rfl)) rfl (j := 0) rfl ?_
      refine zp_getf (n := (A 4 : Int)) (pc := 24) hx hb hEξ hwξ (zd_X0_speed (24, .getfield 21, 3, 0, []) (List.mem_of_getElem? (i := 13) rfl)) (j := 17) rfl rfl rfl (zM_P hMξ (hYbξ _ (List.mem_of_getElem? (i := 5) rfl))) ((zM_G hMξ (hYbξ _ (List.mem_of_getElem? (i := 5) rfl)) 0).trans (zM_F hMξ (hFbξ _ (List.mem_of_getElem? (i := 43) rfl)))) ?_
      refine zp_load (pc := 27) hx hb (zd_X0_speed (27, .iload_n 1, 1, 0, []) (List.mem_of_getElem? (i := 14) rfl)) rfl (j := 1) rfl ?_
      refine zp_load (pc := 28) hx hb (zd_X0_speed (28, .aload_n 0, 1, 0, []) (List.mem_of_getElem? (i := 15) rfl)) rfl (j := 0) rfl ?_
      refine zp_getf (n := (A 68 : Int)) (pc := 29) hx hb hEξ hwξ (zd_X0_speed (29, .getfield 9, 3, 0, []) (List.mem_of_getElem? (i := 16) rfl)) (j := 20) rfl rfl rfl (zM_P hMξ (hYbξ _ (List.mem_of_getElem? (i := 5) rfl))) ((zM_G hMξ (hYbξ _ (List.mem_of_getElem? (i := 5) rfl)) 3).trans (zM_F hMξ (hFbξ _ (List.mem_of_getElem? (i := 44) rfl)))) ?_
      refine zp_load (pc := 32) hx hb (zd_X0_speed (32, .iload_n 1, 1, 0, []) (List.mem_of_getElem? (i := 17) rfl)) rfl (j := 1) rfl ?_
      refine zp_iald (j := p1ξ.toNat) (v := (zd_pw (zd_ru (zRc V 2 50) Lwξ t0ξ) t0ξ p1ξ.toNat)) (pc := 33) hx hb hwξ (zd_X0_speed (33, .iaload, 1, 0, []) (List.mem_of_getElem? (i := 18) rfl)) (show zp_ia 1 14 = some (24, 0, 0, (-2147483648), 2147483647) from rfl) (zM_P hMξ (hYbξ _ (List.mem_of_getElem? (i := 46) rfl))) (by omega) (by omega) ((zM_G hMξ (hYbξ _ (List.mem_of_getElem? (i := 46) rfl)) (2000 + p1ξ.toNat)).trans (hpwξ p1ξ.toNat (by omega))) (fun hk621ξ => ?_)
      have hk621bξ := zp_int hk621ξ
      clear hk621ξ
      refine zp_load (pc := 34) hx hb (zd_X0_speed (34, .iload_n 2, 1, 0, []) (List.mem_of_getElem? (i := 19) rfl)) rfl (j := 2) rfl ?_
      refine zp_load (pc := 35) hx hb (zd_X0_speed (35, .aload_n 0, 1, 0, []) (List.mem_of_getElem? (i := 20) rfl)) rfl (j := 0) rfl ?_
      refine zp_getf (n := (A 2 : Int)) (pc := 36) hx hb hEξ hwξ (zd_X0_speed (36, .getfield 35, 3, 0, []) (List.mem_of_getElem? (i := 21) rfl)) (j := 19) rfl rfl rfl (zM_P hMξ (hYbξ _ (List.mem_of_getElem? (i := 5) rfl))) ((zM_G hMξ (hYbξ _ (List.mem_of_getElem? (i := 5) rfl)) 2).trans h52ξ) ?_
      refine zp_getf (n := (A 50 : Int)) (pc := 39) hx hb hEξ hwξ (zd_X0_speed (39, .getfield 93, 3, 0, []) (List.mem_of_getElem? (i := 22) rfl)) (j := 0) rfl rfl rfl (zM_P hMξ (hYbξ _ (List.mem_of_getElem? (i := 2) rfl))) ((zM_G hMξ (hYbξ _ (List.mem_of_getElem? (i := 2) rfl)) 0).trans (zM_F hMξ (hFbξ _ (List.mem_of_getElem? (i := 25) rfl)))) ?_
      refine zp_load (pc := 42) hx hb (zd_X0_speed (42, .iload_n 2, 1, 0, []) (List.mem_of_getElem? (i := 23) rfl)) rfl (j := 2) rfl ?_
      refine zp_iald (j := p2ξ.toNat) (v := (V 50 (2000 + p2ξ.toNat))) (pc := 43) hx hb hwξ (zd_X0_speed (43, .iaload, 1, 0, []) (List.mem_of_getElem? (i := 24) rfl)) (show zp_ia 1 17 = some (6, 0, 0, (-2147483648), 2147483647) from rfl) (zM_P hMξ (hYbξ _ (List.mem_of_getElem? (i := 28) rfl))) (by omega) (by omega) ((zM_G hMξ (hYbξ _ (List.mem_of_getElem? (i := 28) rfl)) (2000 + p2ξ.toNat)).trans (hVξ 50 (2000 + p2ξ.toNat) (by decide))) (fun hk622ξ => ?_)
      have hk622bξ := zp_int hk622ξ
      clear hk622ξ
      refine zp_load (pc := 44) hx hb (zd_X0_speed (44, .aload_n 0, 1, 0, []) (List.mem_of_getElem? (i := 25) rfl)) rfl (j := 0) rfl ?_
      refine zp_getf (n := (A 2 : Int)) (pc := 45) hx hb hEξ hwξ (zd_X0_speed (45, .getfield 35, 3, 0, []) (List.mem_of_getElem? (i := 26) rfl)) (j := 19) rfl rfl rfl (zM_P hMξ (hYbξ _ (List.mem_of_getElem? (i := 5) rfl))) ((zM_G hMξ (hYbξ _ (List.mem_of_getElem? (i := 5) rfl)) 2).trans h52ξ) ?_
      refine zp_getf (n := (A 51 : Int)) (pc := 48) hx hb hEξ hwξ (zd_X0_speed (48, .getfield 96, 3, 0, []) (List.mem_of_getElem? (i := 27) rfl)) (j := 1) rfl rfl rfl (zM_P hMξ (hYbξ _ (List.mem_of_getElem? (i := 2) rfl))) ((zM_G hMξ (hYbξ _ (List.mem_of_getElem? (i := 2) rfl)) 1).trans (zM_F hMξ (hFbξ _ (List.mem_of_getElem? (i := 26) rfl)))) ?_
      refine zp_load (pc := 51) hx hb (zd_X0_speed (51, .iload_n 2, 1, 0, []) (List.mem_of_getElem? (i := 28) rfl)) rfl (j := 2) rfl ?_
      refine zp_iald (j := p2ξ.toNat) (v := (V 51 (2000 + p2ξ.toNat))) (pc := 52) hx hb hwξ (zd_X0_speed (52, .iaload, 1, 0, []) (List.mem_of_getElem? (i := 29) rfl)) (show zp_ia 1 18 = some (6, 0, 0, 0, 45) from rfl) (zM_P hMξ (hYbξ _ (List.mem_of_getElem? (i := 29) rfl))) (by omega) (by omega) ((zM_G hMξ (hYbξ _ (List.mem_of_getElem? (i := 29) rfl)) (2000 + p2ξ.toNat)).trans (hVξ 51 (2000 + p2ξ.toNat) (by decide))) (fun hk623ξ => ?_)
      have hk623bξ := zp_int hk623ξ
      clear hk623ξ
      have hq2ξ : p2ξ = ((p2ξ.toNat : Nat) : Int) := by omega
      have hRoξ : V 50 (2000 + p2ξ.toNat) = zg_po (zRc V 2 50) 0 p2ξ := by
        rw [hq2ξ]
        exact zc_po (by omega)
      have hRlξ : V 51 (2000 + p2ξ.toNat) = zg_po (zRc V 2 50) 2 p2ξ := by
        rw [hq2ξ]
        exact zc_pl9 (b := 50) (by omega)
      have hlr624ξ := zg_lawM hMξ hYF0ξ hVξ hAbξ (pw := (zd_pw (zd_ru (zRc V 2 50) Lwξ t0ξ) t0ξ p1ξ.toNat)) (hrξ := p1ξ) (p := p2ξ) (o := (V 50 (2000 + p2ξ.toNat))) (l := (V 51 (2000 + p2ξ.toNat))) (by omega) (by omega) (by omega) (by omega) (by omega) hRoξ hRlξ
      refine zp_call (pc := 53) (how := 0) (idx := 99) (mi := 111) (S := []) hx hb hEξ hwξ heffξ hrmξ (zX_sp_ hWξ (A 66) (fun j => M 66 (2000 + j)) (zg_ew (zRc V 2 50) zd_S0 t0ξ (zd_pw (zd_ru (zRc V 2 50) Lwξ t0ξ) t0ξ p1ξ.toNat) p1ξ p2ξ) Lwξ) rfl (j := 8) rfl rfl (by decide +kernel) (zd_X0_speed (53, .invokevirtual 99, 3, 0, []) (List.mem_of_getElem? (i := 30) rfl)) [(A 4 : Int), p1ξ, (zd_pw (zd_ru (zRc V 2 50) Lwξ t0ξ) t0ξ p1ξ.toNat), p2ξ, (V 50 (2000 + p2ξ.toNat)), (V 51 (2000 + p2ξ.toNat))] rfl ⟨zp_o2 (zM_P hMξ (hYbξ _ (List.mem_of_getElem? (i := 4) rfl))), zp_o0 (by omega) (by omega) (by omega) (by omega), zp_o0 (by omega) (by omega) (by omega) (by omega), zp_o0 (by omega) (by omega) (by omega) (by omega), zp_o0 (by omega) (by omega) (by omega) (by omega), zp_o0 (by omega) (by omega) (by omega) (by omega), trivial⟩ (Nat.le_of_ble_eq_true rfl) hlr624ξ (fun al halξ rnr624ξ Pr624 Gr624 hextr624ξ hfrr624ξ hokr624ξ hcsr624ξ hpsir624ξ => ?_)
      obtain rfl := List.mem_singleton.mp halξ
      have hrr624ξ := zp_int (hokr624ξ _ rfl).1
      obtain ⟨hPer624ξ, hWnr624ξ, htr624ξ⟩ := hpsir624ξ
      obtain ⟨Mr624, hMr624ξ, hMkr624ξ, hM6r624ξ⟩ := zM_rul hMξ hYF0ξ hfrr624ξ hextr624ξ
      subst hPer624ξ
      have hVr624ξ : ∀ o k, zNc o → Mr624 o k = V o k := fun o k hkξ => (hMkr624ξ o k (fun e => hkξ (by rw [e]; decide)) (fun e => hkξ (by rw [e]; decide))).trans (hVξ o k hkξ)
      have hAbr624ξ := zAb_n (hAbξ) (fun j => (hM6r624ξ (2000 + j)).trans (hWnr624ξ j)) hlr624ξ.1.2.2.2.2.1 (hMkr624ξ 4 2 (by decide) (by decide))
      clear hextr624ξ hfrr624ξ hokr624ξ hcsr624ξ hlr624ξ
      have htr624ξ : rnr624ξ = (zy_sp (zg_ew (zRc V 2 50) zd_S0 t0ξ (zd_pw (zd_ru (zRc V 2 50) Lwξ t0ξ) t0ξ p1ξ.toNat) p1ξ p2ξ) Lwξ (zd_pw (zd_ru (zRc V 2 50) Lwξ t0ξ) t0ξ p1ξ.toNat) (V 51 (2000 + p2ξ.toNat))) := htr624ξ
      refine zp_iret (pc := 56) (n := rnr624ξ) hx hb hEξ hQξ hU5ξ rfl (by decide) (zd_X0_speed (56, .ireturn, 1, 0, []) (List.mem_of_getElem? (i := 31) rfl)) (j := 0) rfl (zp_o0 (by omega) (by omega) (by omega) (by omega)) ?_
      rw [hpsξ]
      refine ⟨rfl, Mr624, hMr624ξ, ?_⟩
      refine ⟨hVr624ξ, ⟨hAbr624ξ, ⟨(hMkr624ξ 5 1 (by decide) (by decide)).trans h51ξ, (hMkr624ξ 5 2 (by decide) (by decide)).trans h52ξ⟩, fun h hhξ => (hMkr624ξ 68 _ (by decide) (by decide)).trans (hpwξ h hhξ), fun w hwξ => ⟨(hMkr624ξ 69 _ (by decide) (by decide)).trans (hXξ w hwξ).1, (hMkr624ξ 70 _ (by decide) (by decide)).trans (hXξ w hwξ).2⟩⟩, ?_⟩
      have hsp9ξ : rnr624ξ = zd_sp (zRc V 2 50) Lwξ t0ξ (zd_pw (zd_ru (zRc V 2 50) Lwξ t0ξ) t0ξ p1ξ.toNat) p1ξ.toNat p2ξ.toNat := by
        rw [htr624ξ]
        unfold zd_sp
        rw [zRc_l (show p2ξ.toNat < 6 by omega), show ((p1ξ.toNat : Nat) : Int) = p1ξ by omega, show ((p2ξ.toNat : Nat) : Int) = p2ξ by omega]
      show rnr624ξ = (if (0 ≤ p1ξ ∧ p1ξ ≤ 23) ∧ (0 ≤ p2ξ ∧ p2ξ < V 1 1 ∧ p2ξ < 6) then zd_sp (zRc V 2 50) Lwξ t0ξ (zd_pw (zd_ru (zRc V 2 50) Lwξ t0ξ) t0ξ p1ξ.toNat) p1ξ.toNat p2ξ.toNat else 0)
      exact (Eq.trans hsp9ξ) (if_pos ⟨⟨by omega, by omega⟩, by omega, by omega, by omega⟩).symm
    · have hbf620ξ : ¬ (0 ≤ p2ξ ∧ p2ξ < (V 1 1) ∧ p2ξ < 6) := fun h9ξ => absurd ((Iff.mpr hti617ξ) h9ξ) (by omega)
      refine zp_const (pc := 21) hx hb (zd_X0_speed (21, .iconst 0, 1, 0, []) (List.mem_of_getElem? (i := 10) rfl)) rfl rfl ?_
      refine zp_iret (pc := 22) (n := 0) hx hb hEξ hQξ hU5ξ rfl (by decide) (zd_X0_speed (22, .ireturn, 1, 0, []) (List.mem_of_getElem? (i := 11) rfl)) (j := 0) rfl (zp_o0 (by omega) (by omega) (by omega) (by omega)) ?_
      rw [hpsξ]
      refine ⟨rfl, M, hMξ, ?_⟩
      refine ⟨hVξ, hDskξ, ?_⟩
      show (0 : Int) = (if (0 ≤ p1ξ ∧ p1ξ ≤ 23) ∧ (0 ≤ p2ξ ∧ p2ξ < V 1 1 ∧ p2ξ < 6) then zd_sp (zRc V 2 50) Lwξ t0ξ (zd_pw (zd_ru (zRc V 2 50) Lwξ t0ξ) t0ξ p1ξ.toNat) p1ξ.toNat p2ξ.toNat else 0)
      exact (if_neg (by omega)).symm
noncomputable def zf_horc (V : Nat → Nat → Int) (n1ξ npξ : Nat) (Lwξ : List yK) (p1ξ : Int) (p2ξ : Int) (p3ξ : Int) : Int × (Nat → Nat → Int) := if 0 ≤ p1ξ ∧ p1ξ ≤ 12 then if 0 ≤ p2ξ ∧ p2ξ ≤ 23 then if p3ξ = 0 then ((zd_pw (zd_ru (zRc V 2 50) Lwξ p1ξ) p1ξ p2ξ.toNat), V) else if 0 ≤ (p3ξ - 1) ∧ (p3ξ - 1) < (V 1 1) ∧ (p3ξ - 1) < 6 then ((if (0 ≤ p2ξ ∧ p2ξ ≤ 23) ∧ (0 ≤ (p3ξ - 1) ∧ (p3ξ - 1) < V 1 1 ∧ (p3ξ - 1) < 6) then zd_sp (zRc V 2 50) Lwξ p1ξ (zd_pw (zd_ru (zRc V 2 50) Lwξ p1ξ) p1ξ p2ξ.toNat) p2ξ.toNat (p3ξ - 1).toNat else 0), V) else ((-1), V) else ((-1), V) else ((-1), V)
noncomputable def zK_horc : zk_K := (zt_mn 128, prog_1_method_31_code, 4, (Option.some Jvm.ClassFile.FieldType.int), 1, 11, [(2, 12, 0, 0), (0, 0, (-2147483648), 2147483647), (0, 0, (-2147483648), 2147483647), (0, 0, (-2147483648), 2147483647)], [(some (0, 0, (-2147483648), 2147483647), [])], zUC, (6, 360, 0, 0))
noncomputable def zφ_horc (A : Nat → Nat) (Y : List (Nat × Nat)) (F : List (Nat × Nat × Nat)) (V : Nat → Nat → Int) (n1ξ npξ : Nat) (Lwξ : List yK) : (Nat → Option Nat) → (Nat → Nat → Int) → List Int → Prop := fun P G ps => zMVc A Y F V P G ∧ ps.getD 0 0 = (A 0 : Int) ∧ zMc Y F ∧ zLF A Y F V Lwξ ∧ zc_ok V 2 50 n1ξ npξ
noncomputable def zψ_horc (A : Nat → Nat) (Y : List (Nat × Nat)) (F : List (Nat × Nat × Nat)) (V : Nat → Nat → Int) (n1ξ npξ : Nat) (Lwξ : List yK) : (Nat → Option Nat) → (Nat → Nat → Int) → List Int → (Nat → Option Nat) → (Nat → Nat → Int) → Int → Prop := fun P G ps P' G' rn => P' = P ∧ zMVc A Y F (zf_horc V n1ξ npξ Lwξ (ps.getD 1 0) (ps.getD 2 0) (ps.getD 3 0)).2 P' G' ∧ rn = (zf_horc V n1ξ npξ Lwξ (ps.getD 1 0) (ps.getD 2 0) (ps.getD 3 0)).1
theorem zX_horc {l : Launch} {w : zk_W} (hWξ : zh_W w) (A : Nat → Nat) (Y : List (Nat × Nat)) (F : List (Nat × Nat × Nat)) (V : Nat → Nat → Int) (n1ξ npξ : Nat) (Lwξ : List yK) : zk_metX l w zt_dv zt_TB zK_horc (zp_A (zφ_horc A Y F V n1ξ npξ Lwξ)) (zp_B (zψ_horc A Y F V n1ξ npξ Lwξ)) ∧ zk_cok w zt_TB zK_horc := by
  refine zp_methX (cn := "WoundTown") zp_lkallW hWξ (pl := 1094) rfl (by decide +kernel) (fun p e R s m args below meth c Q u hx hb hEξ hQξ hU5ξ heffξ hnLξ hokξ hφ => ?_)
  have hwξ := hWξ.1
  obtain ⟨p0ξ, p1ξ, p2ξ, p3ξ, hpsξ, tk0, tk1, tk2, tk3⟩ := zp_ps4 hokξ
  have hrmξ : zk_Kr (zk_ev (zt_types, zp_lkW, zt_dv, [], [], zp_lcW, zK_horc)) = zk_Kr zK_horc := rfl
  rw [hpsξ] at hφ ⊢
  have hφ : zMVc A Y F V u.1 (zp_n u.2.1) ∧ p0ξ = (A 0 : Int) ∧ zMc Y F ∧ zLF A Y F V Lwξ ∧ zc_ok V 2 50 n1ξ npξ := hφ
  obtain ⟨⟨M, hMξ, hVξ, hSbξ⟩, rfl, hYFξ, hlwξ, hokξ⟩ := hφ
  have hYF0ξ := hYFξ
  obtain ⟨hYbξ, hFbξ, hFxξ, -⟩ := hYFξ
  have hi1ξ := zp_int tk1
  have hi2ξ := zp_int tk2
  have hi3ξ := zp_int tk3
  show zp_J p l e R s m args below meth c Q w u [] 0 [(0, 2, (A 0 : Int)), (1, 0, p1ξ), (2, 0, p2ξ), (3, 0, p3ξ)] [] u.1 (zp_n u.2.1)
  refine zp_load (pc := 0) hx hb (zd_X11_hour (0, .iload_n 1, 1, 0, []) (List.mem_of_getElem? (i := 0) rfl)) rfl (j := 1) rfl ?_
  refine zp_call (pc := 1) (how := 1) (idx := 292) (mi := 86) (S := []) hx hb hEξ hwξ heffξ hrmξ (zX_art hWξ) rfl (j := 31) rfl rfl (by decide +kernel) (zd_X11_hour (1, .invokestatic 292, 3, 0, []) (List.mem_of_getElem? (i := 1) rfl)) [p1ξ] rfl ⟨zp_o0 (by omega) (by omega) (by omega) (by omega), trivial⟩ (Nat.le_of_ble_eq_true rfl) trivial (fun al halξ rnn625ξ Pn625 Gn625 hextn625ξ hfrn625ξ hokn625ξ hcsn625ξ hpsin625ξ => ?_)
  obtain rfl := List.mem_singleton.mp halξ
  have hrn625ξ := zp_int (hokn625ξ _ rfl).1
  obtain ⟨hPen625ξ, hGen625ξ, htn625ξ⟩ := hpsin625ξ
  rw [hPen625ξ, hGen625ξ]
  clear hextn625ξ hfrn625ξ hcsn625ξ hPen625ξ hGen625ξ
  have htn625ξ : rnn625ξ = 1 ↔ 0 ≤ p1ξ ∧ p1ξ ≤ 12 := htn625ξ
  refine zp_if (pc := 4) (tgt := 17) hx hb (zd_X11_hour (4, .ifCond .eq 13, 3, 0, []) (List.mem_of_getElem? (i := 2) rfl)) rfl (fun (hc626ξ : rnn625ξ = 0) => ?_) (fun (hc626ξ : ¬ (rnn625ξ = 0)) => ?_)
  · have hbf627ξ : ¬ (0 ≤ p1ξ ∧ p1ξ ≤ 12) := fun h9ξ => absurd ((Iff.mpr htn625ξ) h9ξ) (by omega)
    refine zp_const (pc := 17) hx hb (zd_X11_hour (17, .iconst (-1), 1, 0, []) (List.mem_of_getElem? (i := 8) rfl)) rfl rfl ?_
    refine zp_iret (pc := 18) (n := (-1)) hx hb hEξ hQξ hU5ξ rfl (by decide) (zd_X11_hour (18, .ireturn, 1, 0, []) (List.mem_of_getElem? (i := 9) rfl)) (j := 0) rfl (zp_o0 (by omega) (by omega) (by omega) (by omega)) ?_
    rw [hpsξ]
    refine ⟨rfl, ?_⟩
    have hffξ : zf_horc V n1ξ npξ Lwξ p1ξ p2ξ p3ξ = ((-1), V) := by
      unfold zf_horc
      rw [if_neg (fun h9ξ => absurd ((Iff.mpr htn625ξ) h9ξ) (by omega))]
    show zMVc A Y F (zf_horc V n1ξ npξ Lwξ p1ξ p2ξ p3ξ).2 u.1 (zp_n u.2.1) ∧ (-1) = (zf_horc V n1ξ npξ Lwξ p1ξ p2ξ p3ξ).1
    rw [hffξ]
    exact ⟨⟨M, hMξ, hVξ, trivial⟩, rfl⟩
  · have hbt628ξ := (Iff.mp htn625ξ) (by omega)
    refine zp_load (pc := 7) hx hb (zd_X11_hour (7, .iload_n 2, 1, 0, []) (List.mem_of_getElem? (i := 3) rfl)) rfl (j := 2) rfl ?_
    refine zp_const (pc := 8) hx hb (zd_X11_hour (8, .iconst 0, 1, 0, []) (List.mem_of_getElem? (i := 4) rfl)) rfl rfl ?_
    refine zp_const (pc := 9) hx hb (zd_X11_hour (9, .bipush 23, 2, 0, []) (List.mem_of_getElem? (i := 5) rfl)) rfl rfl ?_
    refine zp_call (pc := 11) (how := 1) (idx := 107) (mi := 15) (S := []) hx hb hEξ hwξ heffξ hrmξ (zX_iwn hWξ) rfl (j := 10) rfl rfl (by decide +kernel) (zd_X11_hour (11, .invokestatic 107, 3, 0, []) (List.mem_of_getElem? (i := 6) rfl)) [p2ξ, 0, 23] rfl ⟨zp_o0 (by omega) (by omega) (by omega) (by omega), zp_o0 (by omega) (by omega) (by omega) (by omega), zp_o0 (by omega) (by omega) (by omega) (by omega), trivial⟩ (Nat.le_of_ble_eq_true rfl) trivial (fun al halξ rnn629ξ Pn629 Gn629 hextn629ξ hfrn629ξ hokn629ξ hcsn629ξ hpsin629ξ => ?_)
    obtain rfl := List.mem_singleton.mp halξ
    have hrn629ξ := zp_int (hokn629ξ _ rfl).1
    obtain ⟨hPen629ξ, hGen629ξ, htn629ξ⟩ := hpsin629ξ
    rw [hPen629ξ, hGen629ξ]
    clear hextn629ξ hfrn629ξ hcsn629ξ hPen629ξ hGen629ξ
    have htn629ξ : rnn629ξ = 1 ↔ 0 ≤ p2ξ ∧ p2ξ ≤ 23 := htn629ξ
    refine zp_if (pc := 14) (tgt := 19) hx hb (zd_X11_hour (14, .ifCond .ne 5, 3, 0, []) (List.mem_of_getElem? (i := 7) rfl)) rfl (fun (hc630ξ : ¬ rnn629ξ = 0) => ?_) (fun (hc630ξ : ¬ (¬ rnn629ξ = 0)) => ?_)
    · have hbt631ξ := (Iff.mp htn629ξ) (by omega)
      refine zp_load (pc := 19) hx hb (zd_X11_hour (19, .iload_n 3, 1, 0, []) (List.mem_of_getElem? (i := 10) rfl)) rfl (j := 3) rfl ?_
      refine zp_if (pc := 20) (tgt := 38) hx hb (zd_X11_hour (20, .ifCond .eq 18, 3, 0, []) (List.mem_of_getElem? (i := 11) rfl)) rfl (fun (hc633ξ : p3ξ = 0) => ?_) (fun (hc633ξ : ¬ (p3ξ = 0)) => ?_)
      · refine zp_load (pc := 38) hx hb (zd_X11_hour (38, .aload_n 0, 1, 0, []) (List.mem_of_getElem? (i := 21) rfl)) rfl (j := 0) rfl ?_
        refine zp_getf (n := (A 5 : Int)) (pc := 39) hx hb hEξ hwξ (zd_X11_hour (39, .getfield 39, 3, 0, []) (List.mem_of_getElem? (i := 22) rfl)) (j := 54) rfl rfl rfl (zM_P hMξ (hYbξ _ (List.mem_of_getElem? (i := 0) rfl))) ((zM_G hMξ (hYbξ _ (List.mem_of_getElem? (i := 0) rfl)) 4).trans (zM_F hMξ (hFbξ _ (List.mem_of_getElem? (i := 4) rfl)))) ?_
        refine zp_load (pc := 42) hx hb (zd_X11_hour (42, .aload_n 0, 1, 0, []) (List.mem_of_getElem? (i := 23) rfl)) rfl (j := 0) rfl ?_
        refine zp_getf (n := (A 1 : Int)) (pc := 43) hx hb hEξ hwξ (zd_X11_hour (43, .getfield 10, 3, 0, []) (List.mem_of_getElem? (i := 24) rfl)) (j := 50) rfl rfl rfl (zM_P hMξ (hYbξ _ (List.mem_of_getElem? (i := 0) rfl))) ((zM_G hMξ (hYbξ _ (List.mem_of_getElem? (i := 0) rfl)) 0).trans (zM_F hMξ (hFbξ _ (List.mem_of_getElem? (i := 0) rfl)))) ?_
        refine zp_load (pc := 46) hx hb (zd_X11_hour (46, .aload_n 0, 1, 0, []) (List.mem_of_getElem? (i := 25) rfl)) rfl (j := 0) rfl ?_
        refine zp_getf (n := (A 1 : Int)) (pc := 47) hx hb hEξ hwξ (zd_X11_hour (47, .getfield 10, 3, 0, []) (List.mem_of_getElem? (i := 26) rfl)) (j := 50) rfl rfl rfl (zM_P hMξ (hYbξ _ (List.mem_of_getElem? (i := 0) rfl))) ((zM_G hMξ (hYbξ _ (List.mem_of_getElem? (i := 0) rfl)) 0).trans (zM_F hMξ (hFbξ _ (List.mem_of_getElem? (i := 0) rfl)))) ?_
        refine zp_getf (n := (A 2 : Int)) (pc := 50) hx hb hEξ hwξ (zd_X11_hour (50, .getfield 135, 3, 0, []) (List.mem_of_getElem? (i := 27) rfl)) (j := 24) rfl rfl rfl (zM_P hMξ (hYbξ _ (List.mem_of_getElem? (i := 1) rfl))) ((zM_G hMξ (hYbξ _ (List.mem_of_getElem? (i := 1) rfl)) 18).trans (zM_F hMξ (hFbξ _ (List.mem_of_getElem? (i := 24) rfl)))) ?_
        refine zp_load (pc := 53) hx hb (zd_X11_hour (53, .iload_n 1, 1, 0, []) (List.mem_of_getElem? (i := 28) rfl)) rfl (j := 1) rfl ?_
        refine zp_call (pc := 54) (how := 0) (idx := 341) (mi := 105) (S := []) hx hb hEξ hwξ heffξ hrmξ (zX_beg2 hWξ A Y F V n1ξ npξ p1ξ Lwξ) rfl (j := 45) rfl rfl (by decide +kernel) (zd_X11_hour (54, .invokevirtual 341, 3, 0, []) (List.mem_of_getElem? (i := 29) rfl)) [(A 5 : Int), (A 1 : Int), (A 2 : Int), p1ξ] rfl ⟨zp_o2 (zM_P hMξ (hYbξ _ (List.mem_of_getElem? (i := 5) rfl))), zp_o2 (zM_P hMξ (hYbξ _ (List.mem_of_getElem? (i := 1) rfl))), zp_o2 (zM_P hMξ (hYbξ _ (List.mem_of_getElem? (i := 2) rfl))), zp_o0 (by omega) (by omega) (by omega) (by omega), trivial⟩ (Nat.le_of_ble_eq_true rfl) ⟨⟨M, hMξ, hVξ, trivial⟩, rfl, hYF0ξ, rfl, rfl, rfl, hlwξ, hokξ, by omega, by omega⟩ (fun al halξ rndy Pdy Gdy hextdyξ hfrdyξ hokdyξ hcsdyξ hpsidyξ => ?_)
        obtain rfl := List.mem_singleton.mp halξ
        obtain ⟨hPedyξ, Mdy, hMdyξ, hVdyξ, hDsdyξ⟩ := hpsidyξ
        subst hPedyξ
        clear hextdyξ hfrdyξ hokdyξ hcsdyξ
        have hXdyξ : zDX (zd_hr (zRc V 2 50) n1ξ npξ (zd_sp (zRc V 2 50) Lwξ p1ξ) (zd_ru (zRc V 2 50) Lwξ p1ξ) p1ξ 0) Mdy := hDsdyξ.2.2.2
        refine zp_load (pc := 57) hx hb (zd_X11_hour (57, .iload_n 3, 1, 0, []) (List.mem_of_getElem? (i := 30) rfl)) rfl (j := 3) rfl ?_
        refine zp_if (pc := 58) (tgt := 73) hx hb (zd_X11_hour (58, .ifCond .ne 15, 3, 0, []) (List.mem_of_getElem? (i := 31) rfl)) rfl (fun (hc634ξ : ¬ p3ξ = 0) => ?_) (fun (hc634ξ : ¬ (¬ p3ξ = 0)) => ?_)
        · exfalso
          omega
        · refine zp_load (pc := 61) hx hb (zd_X11_hour (61, .aload_n 0, 1, 0, []) (List.mem_of_getElem? (i := 32) rfl)) rfl (j := 0) rfl ?_
          refine zp_getf (n := (A 5 : Int)) (pc := 62) hx hb hEξ hwξ (zd_X11_hour (62, .getfield 39, 3, 0, []) (List.mem_of_getElem? (i := 33) rfl)) (j := 54) rfl rfl rfl (zM_P hMdyξ (hYbξ _ (List.mem_of_getElem? (i := 0) rfl))) ((zM_G hMdyξ (hYbξ _ (List.mem_of_getElem? (i := 0) rfl)) 4).trans (zM_F hMdyξ (hFbξ _ (List.mem_of_getElem? (i := 4) rfl)))) ?_
          refine zp_getf (n := (A 68 : Int)) (pc := 65) hx hb hEξ hwξ (zd_X11_hour (65, .getfield 344, 3, 0, []) (List.mem_of_getElem? (i := 34) rfl)) (j := 29) rfl rfl rfl (zM_P hMdyξ (hYbξ _ (List.mem_of_getElem? (i := 5) rfl))) ((zM_G hMdyξ (hYbξ _ (List.mem_of_getElem? (i := 5) rfl)) 3).trans (zM_F hMdyξ (hFbξ _ (List.mem_of_getElem? (i := 44) rfl)))) ?_
          refine zp_load (pc := 68) hx hb (zd_X11_hour (68, .iload_n 2, 1, 0, []) (List.mem_of_getElem? (i := 35) rfl)) rfl (j := 2) rfl ?_
          refine zp_iald (j := p2ξ.toNat) (v := (zd_pw (zd_ru (zRc V 2 50) Lwξ p1ξ) p1ξ p2ξ.toNat)) (pc := 69) hx hb hwξ (zd_X11_hour (69, .iaload, 1, 0, []) (List.mem_of_getElem? (i := 36) rfl)) (show zp_ia 1 14 = some (24, 0, 0, (-2147483648), 2147483647) from rfl) (zM_P hMdyξ (hYbξ _ (List.mem_of_getElem? (i := 46) rfl))) (by omega) (by omega) ((zM_G hMdyξ (hYbξ _ (List.mem_of_getElem? (i := 46) rfl)) (2000 + p2ξ.toNat)).trans (hDsdyξ.2.2.1 p2ξ.toNat (by omega))) (fun hk635ξ => ?_)
          have hk635bξ := zp_int hk635ξ
          clear hk635ξ
          refine zp_goto (tgt := 84) (pc := 70) hx hb (zd_X11_hour (70, .goto 14, 3, 0, []) (List.mem_of_getElem? (i := 37) rfl)) rfl ?_
          refine zp_iret (pc := 84) (n := (zd_pw (zd_ru (zRc V 2 50) Lwξ p1ξ) p1ξ p2ξ.toNat)) hx hb hEξ hQξ hU5ξ rfl (by decide) (zd_X11_hour (84, .ireturn, 1, 0, []) (List.mem_of_getElem? (i := 45) rfl)) (j := 0) rfl (zp_o0 (by omega) (by omega) (by omega) (by omega)) ?_
          rw [hpsξ]
          refine ⟨rfl, ?_⟩
          have hffξ : zf_horc V n1ξ npξ Lwξ p1ξ p2ξ p3ξ = ((zd_pw (zd_ru (zRc V 2 50) Lwξ p1ξ) p1ξ p2ξ.toNat), V) := by
            unfold zf_horc
            rw [if_pos ((Iff.mp htn625ξ) (by omega)), if_pos ((Iff.mp htn629ξ) (by omega)), if_pos hc633ξ]
          show zMVc A Y F (zf_horc V n1ξ npξ Lwξ p1ξ p2ξ p3ξ).2 u.1 Gdy ∧ (zd_pw (zd_ru (zRc V 2 50) Lwξ p1ξ) p1ξ p2ξ.toNat) = (zf_horc V n1ξ npξ Lwξ p1ξ p2ξ p3ξ).1
          rw [hffξ]
          exact ⟨⟨Mdy, hMdyξ, hVdyξ, trivial⟩, rfl⟩
      · refine zp_load (pc := 23) hx hb (zd_X11_hour (23, .aload_n 0, 1, 0, []) (List.mem_of_getElem? (i := 12) rfl)) rfl (j := 0) rfl ?_
        refine zp_getf (n := (A 1 : Int)) (pc := 24) hx hb hEξ hwξ (zd_X11_hour (24, .getfield 10, 3, 0, []) (List.mem_of_getElem? (i := 13) rfl)) (j := 50) rfl rfl rfl (zM_P hMξ (hYbξ _ (List.mem_of_getElem? (i := 0) rfl))) ((zM_G hMξ (hYbξ _ (List.mem_of_getElem? (i := 0) rfl)) 0).trans (zM_F hMξ (hFbξ _ (List.mem_of_getElem? (i := 0) rfl)))) ?_
        refine zp_load (pc := 27) hx hb (zd_X11_hour (27, .iload_n 3, 1, 0, []) (List.mem_of_getElem? (i := 14) rfl)) rfl (j := 3) rfl ?_
        refine zp_const (pc := 28) hx hb (zd_X11_hour (28, .iconst 1, 1, 0, []) (List.mem_of_getElem? (i := 15) rfl)) rfl rfl ?_
        by_cases hm9ξ : p3ξ = -2147483648
        · refine zp_binx (o := 1) (n := 2147483647) (pc := 29) hx hb (zd_X11_hour (29, .isub, 1, 0, []) (List.mem_of_getElem? (i := 16) rfl)) rfl (by decide) (by rw [hm9ξ]; rfl) ?_
          refine zp_call (pc := 30) (how := 0) (idx := 131) (mi := 22) (S := []) hx hb hEξ hwξ heffξ hrmξ (zX_hpe1 hWξ A Y F M) rfl (j := 15) rfl rfl (by decide +kernel) (zd_X11_hour (30, .invokevirtual 131, 3, 0, []) (List.mem_of_getElem? (i := 17) rfl)) [(A 1 : Int), 2147483647] rfl ⟨zp_o2 (zM_P hMξ (hYbξ _ (List.mem_of_getElem? (i := 1) rfl))), zp_o0 (by omega) (by omega) (by omega) (by omega), trivial⟩ (Nat.le_of_ble_eq_true rfl) ⟨hMξ, rfl, hYF0ξ⟩ (fun al halξ rni636ξ Pi636 Gi636 hexti636ξ hfri636ξ hoki636ξ hcsi636ξ hpsii636ξ => ?_)
          obtain rfl := List.mem_singleton.mp halξ
          have hri636ξ := zp_int (hoki636ξ _ rfl).1
          obtain ⟨hPei636ξ, hGei636ξ, hti636ξ⟩ := hpsii636ξ
          rw [hPei636ξ, hGei636ξ]
          clear hexti636ξ hfri636ξ hcsi636ξ hPei636ξ hGei636ξ
          have hti636ξ : rni636ξ = 1 ↔ 0 ≤ (2147483647 : Int) ∧ (2147483647 : Int) < (V 1 1) ∧ (2147483647 : Int) < 6 := by
            have h9ξ : rni636ξ = 1 ↔ 0 ≤ (2147483647 : Int) ∧ (2147483647 : Int) < M 1 1 ∧ (2147483647 : Int) < 6 := hti636ξ
            rw [(hVξ 1 1 (by decide))] at h9ξ
            exact h9ξ
          have hr0ξ : rni636ξ = 0 := by omega
          refine zp_if (pc := 33) (tgt := 38) hx hb (zd_X11_hour (33, .ifCond .ne 5, 3, 0, []) (List.mem_of_getElem? (i := 18) rfl)) rfl (fun (hc637ξ : ¬ rni636ξ = 0) => ?_) (fun (hc637ξ : ¬ (¬ rni636ξ = 0)) => ?_)
          · have hbt638ξ := (Iff.mp hti636ξ) (by omega)
            exfalso
            omega
          · have hbf639ξ : ¬ (0 ≤ (2147483647 : Int) ∧ (2147483647 : Int) < (V 1 1) ∧ (2147483647 : Int) < 6) := fun h9ξ => absurd ((Iff.mpr hti636ξ) h9ξ) (by omega)
            refine zp_const (pc := 36) hx hb (zd_X11_hour (36, .iconst (-1), 1, 0, []) (List.mem_of_getElem? (i := 19) rfl)) rfl rfl ?_
            refine zp_iret (pc := 37) (n := (-1)) hx hb hEξ hQξ hU5ξ rfl (by decide) (zd_X11_hour (37, .ireturn, 1, 0, []) (List.mem_of_getElem? (i := 20) rfl)) (j := 0) rfl (zp_o0 (by omega) (by omega) (by omega) (by omega)) ?_
            rw [hpsξ]
            refine ⟨rfl, ?_⟩
            have hffξ : zf_horc V n1ξ npξ Lwξ p1ξ p2ξ p3ξ = ((-1), V) := by
              unfold zf_horc
              rw [if_pos ((Iff.mp htn625ξ) (by omega)), if_pos ((Iff.mp htn629ξ) (by omega)), if_neg hc633ξ, if_neg (fun h9ξ => by omega)]
            show zMVc A Y F (zf_horc V n1ξ npξ Lwξ p1ξ p2ξ p3ξ).2 u.1 (zp_n u.2.1) ∧ (-1) = (zf_horc V n1ξ npξ Lwξ p1ξ p2ξ p3ξ).1
            rw [hffξ]
            exact ⟨⟨M, hMξ, hVξ, trivial⟩, rfl⟩
        · refine zp_sub (n := (p3ξ - 1)) (pc := 29) hx hb (zd_X11_hour (29, .isub, 1, 0, []) (List.mem_of_getElem? (i := 16) rfl)) (by omega) (zp_r0 (by omega) (by omega)) ?_
          refine zp_call (pc := 30) (how := 0) (idx := 131) (mi := 22) (S := []) hx hb hEξ hwξ heffξ hrmξ (zX_hpe1 hWξ A Y F M) rfl (j := 15) rfl rfl (by decide +kernel) (zd_X11_hour (30, .invokevirtual 131, 3, 0, []) (List.mem_of_getElem? (i := 17) rfl)) [(A 1 : Int), (p3ξ - 1)] rfl ⟨zp_o2 (zM_P hMξ (hYbξ _ (List.mem_of_getElem? (i := 1) rfl))), zp_o0 (by omega) (by omega) (by omega) (by omega), trivial⟩ (Nat.le_of_ble_eq_true rfl) ⟨hMξ, rfl, hYF0ξ⟩ (fun al halξ rni640ξ Pi640 Gi640 hexti640ξ hfri640ξ hoki640ξ hcsi640ξ hpsii640ξ => ?_)
          obtain rfl := List.mem_singleton.mp halξ
          have hri640ξ := zp_int (hoki640ξ _ rfl).1
          obtain ⟨hPei640ξ, hGei640ξ, hti640ξ⟩ := hpsii640ξ
          rw [hPei640ξ, hGei640ξ]
          clear hexti640ξ hfri640ξ hcsi640ξ hPei640ξ hGei640ξ
          have hti640ξ : rni640ξ = 1 ↔ 0 ≤ (p3ξ - 1) ∧ (p3ξ - 1) < (V 1 1) ∧ (p3ξ - 1) < 6 := by
            have h9ξ : rni640ξ = 1 ↔ 0 ≤ (p3ξ - 1) ∧ (p3ξ - 1) < M 1 1 ∧ (p3ξ - 1) < 6 := hti640ξ
            rw [(hVξ 1 1 (by decide))] at h9ξ
            exact h9ξ
          refine zp_if (pc := 33) (tgt := 38) hx hb (zd_X11_hour (33, .ifCond .ne 5, 3, 0, []) (List.mem_of_getElem? (i := 18) rfl)) rfl (fun (hc641ξ : ¬ rni640ξ = 0) => ?_) (fun (hc641ξ : ¬ (¬ rni640ξ = 0)) => ?_)
          · have hbt642ξ := (Iff.mp hti640ξ) (by omega)
            refine zp_load (pc := 38) hx hb (zd_X11_hour (38, .aload_n 0, 1, 0, []) (List.mem_of_getElem? (i := 21) rfl)) rfl (j := 0) rfl ?_
            refine zp_getf (n := (A 5 : Int)) (pc := 39) hx hb hEξ hwξ (zd_X11_hour (39, .getfield 39, 3, 0, []) (List.mem_of_getElem? (i := 22) rfl)) (j := 54) rfl rfl rfl (zM_P hMξ (hYbξ _ (List.mem_of_getElem? (i := 0) rfl))) ((zM_G hMξ (hYbξ _ (List.mem_of_getElem? (i := 0) rfl)) 4).trans (zM_F hMξ (hFbξ _ (List.mem_of_getElem? (i := 4) rfl)))) ?_
            refine zp_load (pc := 42) hx hb (zd_X11_hour (42, .aload_n 0, 1, 0, []) (List.mem_of_getElem? (i := 23) rfl)) rfl (j := 0) rfl ?_
            refine zp_getf (n := (A 1 : Int)) (pc := 43) hx hb hEξ hwξ (zd_X11_hour (43, .getfield 10, 3, 0, []) (List.mem_of_getElem? (i := 24) rfl)) (j := 50) rfl rfl rfl (zM_P hMξ (hYbξ _ (List.mem_of_getElem? (i := 0) rfl))) ((zM_G hMξ (hYbξ _ (List.mem_of_getElem? (i := 0) rfl)) 0).trans (zM_F hMξ (hFbξ _ (List.mem_of_getElem? (i := 0) rfl)))) ?_
            refine zp_load (pc := 46) hx hb (zd_X11_hour (46, .aload_n 0, 1, 0, []) (List.mem_of_getElem? (i := 25) rfl)) rfl (j := 0) rfl ?_
            refine zp_getf (n := (A 1 : Int)) (pc := 47) hx hb hEξ hwξ (zd_X11_hour (47, .getfield 10, 3, 0, []) (List.mem_of_getElem? (i := 26) rfl)) (j := 50) rfl rfl rfl (zM_P hMξ (hYbξ _ (List.mem_of_getElem? (i := 0) rfl))) ((zM_G hMξ (hYbξ _ (List.mem_of_getElem? (i := 0) rfl)) 0).trans (zM_F hMξ (hFbξ _ (List.mem_of_getElem? (i := 0) rfl)))) ?_
            refine zp_getf (n := (A 2 : Int)) (pc := 50) hx hb hEξ hwξ (zd_X11_hour (50, .getfield 135, 3, 0, []) (List.mem_of_getElem? (i := 27) rfl)) (j := 24) rfl rfl rfl (zM_P hMξ (hYbξ _ (List.mem_of_getElem? (i := 1) rfl))) ((zM_G hMξ (hYbξ _ (List.mem_of_getElem? (i := 1) rfl)) 18).trans (zM_F hMξ (hFbξ _ (List.mem_of_getElem? (i := 24) rfl)))) ?_
            refine zp_load (pc := 53) hx hb (zd_X11_hour (53, .iload_n 1, 1, 0, []) (List.mem_of_getElem? (i := 28) rfl)) rfl (j := 1) rfl ?_
            refine zp_call (pc := 54) (how := 0) (idx := 341) (mi := 105) (S := []) hx hb hEξ hwξ heffξ hrmξ (zX_beg2 hWξ A Y F V n1ξ npξ p1ξ Lwξ) rfl (j := 45) rfl rfl (by decide +kernel) (zd_X11_hour (54, .invokevirtual 341, 3, 0, []) (List.mem_of_getElem? (i := 29) rfl)) [(A 5 : Int), (A 1 : Int), (A 2 : Int), p1ξ] rfl ⟨zp_o2 (zM_P hMξ (hYbξ _ (List.mem_of_getElem? (i := 5) rfl))), zp_o2 (zM_P hMξ (hYbξ _ (List.mem_of_getElem? (i := 1) rfl))), zp_o2 (zM_P hMξ (hYbξ _ (List.mem_of_getElem? (i := 2) rfl))), zp_o0 (by omega) (by omega) (by omega) (by omega), trivial⟩ (Nat.le_of_ble_eq_true rfl) ⟨⟨M, hMξ, hVξ, trivial⟩, rfl, hYF0ξ, rfl, rfl, rfl, hlwξ, hokξ, by omega, by omega⟩ (fun al halξ rndy Pdy Gdy hextdyξ hfrdyξ hokdyξ hcsdyξ hpsidyξ => ?_)
            obtain rfl := List.mem_singleton.mp halξ
            obtain ⟨hPedyξ, Mdy, hMdyξ, hVdyξ, hDsdyξ⟩ := hpsidyξ
            subst hPedyξ
            clear hextdyξ hfrdyξ hokdyξ hcsdyξ
            have hXdyξ : zDX (zd_hr (zRc V 2 50) n1ξ npξ (zd_sp (zRc V 2 50) Lwξ p1ξ) (zd_ru (zRc V 2 50) Lwξ p1ξ) p1ξ 0) Mdy := hDsdyξ.2.2.2
            refine zp_load (pc := 57) hx hb (zd_X11_hour (57, .iload_n 3, 1, 0, []) (List.mem_of_getElem? (i := 30) rfl)) rfl (j := 3) rfl ?_
            refine zp_if (pc := 58) (tgt := 73) hx hb (zd_X11_hour (58, .ifCond .ne 15, 3, 0, []) (List.mem_of_getElem? (i := 31) rfl)) rfl (fun (hc644ξ : ¬ p3ξ = 0) => ?_) (fun (hc644ξ : ¬ (¬ p3ξ = 0)) => ?_)
            · refine zp_load (pc := 73) hx hb (zd_X11_hour (73, .aload_n 0, 1, 0, []) (List.mem_of_getElem? (i := 38) rfl)) rfl (j := 0) rfl ?_
              refine zp_getf (n := (A 5 : Int)) (pc := 74) hx hb hEξ hwξ (zd_X11_hour (74, .getfield 39, 3, 0, []) (List.mem_of_getElem? (i := 39) rfl)) (j := 54) rfl rfl rfl (zM_P hMdyξ (hYbξ _ (List.mem_of_getElem? (i := 0) rfl))) ((zM_G hMdyξ (hYbξ _ (List.mem_of_getElem? (i := 0) rfl)) 4).trans (zM_F hMdyξ (hFbξ _ (List.mem_of_getElem? (i := 4) rfl)))) ?_
              refine zp_load (pc := 77) hx hb (zd_X11_hour (77, .iload_n 2, 1, 0, []) (List.mem_of_getElem? (i := 40) rfl)) rfl (j := 2) rfl ?_
              refine zp_load (pc := 78) hx hb (zd_X11_hour (78, .iload_n 3, 1, 0, []) (List.mem_of_getElem? (i := 41) rfl)) rfl (j := 3) rfl ?_
              refine zp_const (pc := 79) hx hb (zd_X11_hour (79, .iconst 1, 1, 0, []) (List.mem_of_getElem? (i := 42) rfl)) rfl rfl ?_
              refine zp_sub (n := (p3ξ - 1)) (pc := 80) hx hb (zd_X11_hour (80, .isub, 1, 0, []) (List.mem_of_getElem? (i := 43) rfl)) (by omega) (zp_r0 (by omega) (by omega)) ?_
              refine zp_call (pc := 81) (how := 0) (idx := 347) (mi := 129) (S := []) hx hb hEξ hwξ heffξ hrmξ (zX_spd2 hWξ A Y F Mdy V n1ξ npξ p1ξ Lwξ (zd_hr (zRc V 2 50) n1ξ npξ (zd_sp (zRc V 2 50) Lwξ p1ξ) (zd_ru (zRc V 2 50) Lwξ p1ξ) p1ξ 0)) rfl (j := 46) rfl rfl (by decide +kernel) (zd_X11_hour (81, .invokevirtual 347, 3, 0, []) (List.mem_of_getElem? (i := 44) rfl)) [(A 5 : Int), p2ξ, (p3ξ - 1)] rfl ⟨zp_o2 (zM_P hMdyξ (hYbξ _ (List.mem_of_getElem? (i := 5) rfl))), zp_o0 (by omega) (by omega) (by omega) (by omega), zp_o0 (by omega) (by omega) (by omega) (by omega), trivial⟩ (Nat.le_of_ble_eq_true rfl) ⟨hMdyξ, rfl, hYF0ξ, hVdyξ, hDsdyξ, hokξ, by omega, by omega⟩ (fun al halξ rnsp Psp Gsp hextspξ hfrspξ hokspξ hcsspξ hpsispξ => ?_)
              obtain rfl := List.mem_singleton.mp halξ
              have hrspξ := zp_int (hokspξ _ rfl).1
              obtain ⟨hPespξ, Msp, hMspξ, htspξ⟩ := hpsispξ
              subst hPespξ
              have hrsp9ξ : rnsp = (if (0 ≤ p2ξ ∧ p2ξ ≤ 23) ∧ (0 ≤ (p3ξ - 1) ∧ (p3ξ - 1) < V 1 1 ∧ (p3ξ - 1) < 6) then zd_sp (zRc V 2 50) Lwξ p1ξ (zd_pw (zd_ru (zRc V 2 50) Lwξ p1ξ) p1ξ p2ξ.toNat) p2ξ.toNat (p3ξ - 1).toNat else 0) := htspξ.2.2
              have hdspξ : -2147483648 ≤ rnsp ∧ rnsp ≤ 2147483647 := ⟨by omega, by omega⟩
              rw [hrsp9ξ]
              rw [hrsp9ξ] at hdspξ
              refine zp_iret (pc := 84) (n := (if (0 ≤ p2ξ ∧ p2ξ ≤ 23) ∧ (0 ≤ (p3ξ - 1) ∧ (p3ξ - 1) < V 1 1 ∧ (p3ξ - 1) < 6) then zd_sp (zRc V 2 50) Lwξ p1ξ (zd_pw (zd_ru (zRc V 2 50) Lwξ p1ξ) p1ξ p2ξ.toNat) p2ξ.toNat (p3ξ - 1).toNat else 0)) hx hb hEξ hQξ hU5ξ rfl (by decide) (zd_X11_hour (84, .ireturn, 1, 0, []) (List.mem_of_getElem? (i := 45) rfl)) (j := 0) rfl (zp_o0 (by omega) (by omega) (by omega) (by omega)) ?_
              rw [hpsξ]
              refine ⟨rfl, ?_⟩
              have hffξ : zf_horc V n1ξ npξ Lwξ p1ξ p2ξ p3ξ = ((if (0 ≤ p2ξ ∧ p2ξ ≤ 23) ∧ (0 ≤ (p3ξ - 1) ∧ (p3ξ - 1) < V 1 1 ∧ (p3ξ - 1) < 6) then zd_sp (zRc V 2 50) Lwξ p1ξ (zd_pw (zd_ru (zRc V 2 50) Lwξ p1ξ) p1ξ p2ξ.toNat) p2ξ.toNat (p3ξ - 1).toNat else 0), V) := by
                unfold zf_horc
                rw [if_pos ((Iff.mp htn625ξ) (by omega)), if_pos ((Iff.mp htn629ξ) (by omega)), if_neg hc633ξ, if_pos ((Iff.mp hti640ξ) (by omega))]
              show zMVc A Y F (zf_horc V n1ξ npξ Lwξ p1ξ p2ξ p3ξ).2 u.1 Gsp ∧ (if (0 ≤ p2ξ ∧ p2ξ ≤ 23) ∧ (0 ≤ (p3ξ - 1) ∧ (p3ξ - 1) < V 1 1 ∧ (p3ξ - 1) < 6) then zd_sp (zRc V 2 50) Lwξ p1ξ (zd_pw (zd_ru (zRc V 2 50) Lwξ p1ξ) p1ξ p2ξ.toNat) p2ξ.toNat (p3ξ - 1).toNat else 0) = (zf_horc V n1ξ npξ Lwξ p1ξ p2ξ p3ξ).1
              rw [hffξ]
              exact ⟨⟨Msp, hMspξ, htspξ.1, trivial⟩, rfl⟩
            · exfalso
              omega
          · have hbf643ξ : ¬ (0 ≤ (p3ξ - 1) ∧ (p3ξ - 1) < (V 1 1) ∧ (p3ξ - 1) < 6) := fun h9ξ => absurd ((Iff.mpr hti640ξ) h9ξ) (by omega)
            refine zp_const (pc := 36) hx hb (zd_X11_hour (36, .iconst (-1), 1, 0, []) (List.mem_of_getElem? (i := 19) rfl)) rfl rfl ?_
            refine zp_iret (pc := 37) (n := (-1)) hx hb hEξ hQξ hU5ξ rfl (by decide) (zd_X11_hour (37, .ireturn, 1, 0, []) (List.mem_of_getElem? (i := 20) rfl)) (j := 0) rfl (zp_o0 (by omega) (by omega) (by omega) (by omega)) ?_
            rw [hpsξ]
            refine ⟨rfl, ?_⟩
            have hffξ : zf_horc V n1ξ npξ Lwξ p1ξ p2ξ p3ξ = ((-1), V) := by
              unfold zf_horc
              rw [if_pos ((Iff.mp htn625ξ) (by omega)), if_pos ((Iff.mp htn629ξ) (by omega)), if_neg hc633ξ, if_neg (fun h9ξ => absurd ((Iff.mpr hti640ξ) h9ξ) (by omega))]
            show zMVc A Y F (zf_horc V n1ξ npξ Lwξ p1ξ p2ξ p3ξ).2 u.1 (zp_n u.2.1) ∧ (-1) = (zf_horc V n1ξ npξ Lwξ p1ξ p2ξ p3ξ).1
            rw [hffξ]
            exact ⟨⟨M, hMξ, hVξ, trivial⟩, rfl⟩
    · have hbf632ξ : ¬ (0 ≤ p2ξ ∧ p2ξ ≤ 23) := fun h9ξ => absurd ((Iff.mpr htn629ξ) h9ξ) (by omega)
      refine zp_const (pc := 17) hx hb (zd_X11_hour (17, .iconst (-1), 1, 0, []) (List.mem_of_getElem? (i := 8) rfl)) rfl rfl ?_
      refine zp_iret (pc := 18) (n := (-1)) hx hb hEξ hQξ hU5ξ rfl (by decide) (zd_X11_hour (18, .ireturn, 1, 0, []) (List.mem_of_getElem? (i := 9) rfl)) (j := 0) rfl (zp_o0 (by omega) (by omega) (by omega) (by omega)) ?_
      rw [hpsξ]
      refine ⟨rfl, ?_⟩
      have hffξ : zf_horc V n1ξ npξ Lwξ p1ξ p2ξ p3ξ = ((-1), V) := by
        unfold zf_horc
        rw [if_pos ((Iff.mp htn625ξ) (by omega)), if_neg (fun h9ξ => absurd ((Iff.mpr htn629ξ) h9ξ) (by omega))]
      show zMVc A Y F (zf_horc V n1ξ npξ Lwξ p1ξ p2ξ p3ξ).2 u.1 (zp_n u.2.1) ∧ (-1) = (zf_horc V n1ξ npξ Lwξ p1ξ p2ξ p3ξ).1
      rw [hffξ]
      exact ⟨⟨M, hMξ, hVξ, trivial⟩, rfl⟩