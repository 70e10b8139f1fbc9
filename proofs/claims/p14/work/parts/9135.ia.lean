/-! part ia: the class over logical cells: asks -/
noncomputable def zf_askc (V : Nat → Nat → Int) (Lwξ : List yK) (p1ξ : Int) (p2ξ : Int) : Int × (Nat → Nat → Int) := if 0 ≤ p1ξ ∧ p1ξ ≤ 12 then if p2ξ = 0 then ((zy_we (zg_ew (zRc V 2 50) zd_S0 p1ξ (-1) (-1) (-1)) Lwξ p1ξ), V) else if p2ξ = 1 then ((zy_sn (zg_ew (zRc V 2 50) zd_S0 p1ξ (-1) (-1) (-1)) Lwξ p1ξ), V) else ((-1), V) else ((-1), V)
noncomputable def zK_askc : zk_K := (zt_mn 118, prog_1_method_21_code, 3, (Option.some Jvm.ClassFile.FieldType.int), 1, 11, [(2, 12, 0, 0), (0, 0, (-2147483648), 2147483647), (0, 0, (-2147483648), 2147483647)], [(some (0, 0, (-2147483648), 2147483647), [])], zUC, (4, 240, 0, 0))
noncomputable def zφ_askc (A : Nat → Nat) (Y : List (Nat × Nat)) (F : List (Nat × Nat × Nat)) (V : Nat → Nat → Int) (Lwξ : List yK) : (Nat → Option Nat) → (Nat → Nat → Int) → List Int → Prop := fun P G ps => zMVc A Y F V P G ∧ ps.getD 0 0 = (A 0 : Int) ∧ zMc Y F ∧ zLF A Y F V Lwξ
noncomputable def zψ_askc (A : Nat → Nat) (Y : List (Nat × Nat)) (F : List (Nat × Nat × Nat)) (V : Nat → Nat → Int) (Lwξ : List yK) : (Nat → Option Nat) → (Nat → Nat → Int) → List Int → (Nat → Option Nat) → (Nat → Nat → Int) → Int → Prop := fun P G ps P' G' rn => P' = P ∧ zMVc A Y F (zf_askc V Lwξ (ps.getD 1 0) (ps.getD 2 0)).2 P' G' ∧ rn = (zf_askc V Lwξ (ps.getD 1 0) (ps.getD 2 0)).1
theorem zX_askc {l : Launch} {w : zk_W} (hWξ : zh_W w) (A : Nat → Nat) (Y : List (Nat × Nat)) (F : List (Nat × Nat × Nat)) (V : Nat → Nat → Int) (Lwξ : List yK) : zk_metX l w zt_dv zt_TB zK_askc (zp_A (zφ_askc A Y F V Lwξ)) (zp_B (zψ_askc A Y F V Lwξ)) ∧ zk_cok w zt_TB zK_askc := by
  refine zp_methX (cn := "WoundTown") zp_lkallW hWξ (pl := 1054) rfl (by decide +kernel) (fun p e R s m args below meth c Q u hx hb hEξ hQξ hU5ξ heffξ hnLξ hokξ hφ => ?_)
  have hwξ := hWξ.1
  obtain ⟨p0ξ, p1ξ, p2ξ, hpsξ, tk0, tk1, tk2⟩ := zp_ps3 hokξ
  have hrmξ : zk_Kr (zk_ev (zt_types, zp_lkW, zt_dv, [], [], zp_lcW, zK_askc)) = zk_Kr zK_askc := rfl
  rw [hpsξ] at hφ ⊢
  have hφ : zMVc A Y F V u.1 (zp_n u.2.1) ∧ p0ξ = (A 0 : Int) ∧ zMc Y F ∧ zLF A Y F V Lwξ := hφ
  obtain ⟨⟨M, hMξ, hVξ, hSbξ⟩, rfl, hYFξ, hlwξ⟩ := hφ
  have hYF0ξ := hYFξ
  obtain ⟨hYbξ, hFbξ, hFxξ, -⟩ := hYFξ
  have hi1ξ := zp_int tk1
  have hi2ξ := zp_int tk2
  show zp_J p l e R s m args below meth c Q w u [] 0 [(0, 2, (A 0 : Int)), (1, 0, p1ξ), (2, 0, p2ξ)] [] u.1 (zp_n u.2.1)
  refine zp_load (pc := 0) hx hb (zd_X11_asks (0, .iload_n 1, 1, 0, []) (List.mem_of_getElem? (i := 0) rfl)) rfl (j := 1) rfl ?_
  refine zp_call (pc := 1) (how := 1) (idx := 292) (mi := 86) (S := []) hx hb hEξ hwξ heffξ hrmξ (zX_art hWξ) rfl (j := 31) rfl rfl (by decide +kernel) (zd_X11_asks (1, .invokestatic 292, 3, 0, []) (List.mem_of_getElem? (i := 1) rfl)) [p1ξ] rfl ⟨zp_o0 (by omega) (by omega) (by omega) (by omega), trivial⟩ (Nat.le_of_ble_eq_true rfl) trivial (fun al halξ rnn591ξ Pn591 Gn591 hextn591ξ hfrn591ξ hokn591ξ hcsn591ξ hpsin591ξ => ?_)
  obtain rfl := List.mem_singleton.mp halξ
  have hrn591ξ := zp_int (hokn591ξ _ rfl).1
  obtain ⟨hPen591ξ, hGen591ξ, htn591ξ⟩ := hpsin591ξ
  rw [hPen591ξ, hGen591ξ]
  clear hextn591ξ hfrn591ξ hcsn591ξ hPen591ξ hGen591ξ
  have htn591ξ : rnn591ξ = 1 ↔ 0 ≤ p1ξ ∧ p1ξ ≤ 12 := htn591ξ
  refine zp_if (pc := 4) (tgt := 9) hx hb (zd_X11_asks (4, .ifCond .ne 5, 3, 0, []) (List.mem_of_getElem? (i := 2) rfl)) rfl (fun (hc592ξ : ¬ rnn591ξ = 0) => ?_) (fun (hc592ξ : ¬ (¬ rnn591ξ = 0)) => ?_)
  · have hbt593ξ := (Iff.mp htn591ξ) (by omega)
    refine zp_load (pc := 9) hx hb (zd_X11_asks (9, .aload_n 0, 1, 0, []) (List.mem_of_getElem? (i := 5) rfl)) rfl (j := 0) rfl ?_
    refine zp_getf (n := (A 4 : Int)) (pc := 10) hx hb hEξ hwξ (zd_X11_asks (10, .getfield 30, 3, 0, []) (List.mem_of_getElem? (i := 6) rfl)) (j := 53) rfl rfl rfl (zM_P hMξ (hYbξ _ (List.mem_of_getElem? (i := 0) rfl))) ((zM_G hMξ (hYbξ _ (List.mem_of_getElem? (i := 0) rfl)) 3).trans (zM_F hMξ (hFbξ _ (List.mem_of_getElem? (i := 3) rfl)))) ?_
    refine zp_load (pc := 13) hx hb (zd_X11_asks (13, .aload_n 0, 1, 0, []) (List.mem_of_getElem? (i := 7) rfl)) rfl (j := 0) rfl ?_
    refine zp_getf (n := (A 1 : Int)) (pc := 14) hx hb hEξ hwξ (zd_X11_asks (14, .getfield 10, 3, 0, []) (List.mem_of_getElem? (i := 8) rfl)) (j := 50) rfl rfl rfl (zM_P hMξ (hYbξ _ (List.mem_of_getElem? (i := 0) rfl))) ((zM_G hMξ (hYbξ _ (List.mem_of_getElem? (i := 0) rfl)) 0).trans (zM_F hMξ (hFbξ _ (List.mem_of_getElem? (i := 0) rfl)))) ?_
    refine zp_load (pc := 17) hx hb (zd_X11_asks (17, .aload_n 0, 1, 0, []) (List.mem_of_getElem? (i := 9) rfl)) rfl (j := 0) rfl ?_
    refine zp_getf (n := (A 1 : Int)) (pc := 18) hx hb hEξ hwξ (zd_X11_asks (18, .getfield 10, 3, 0, []) (List.mem_of_getElem? (i := 10) rfl)) (j := 50) rfl rfl rfl (zM_P hMξ (hYbξ _ (List.mem_of_getElem? (i := 0) rfl))) ((zM_G hMξ (hYbξ _ (List.mem_of_getElem? (i := 0) rfl)) 0).trans (zM_F hMξ (hFbξ _ (List.mem_of_getElem? (i := 0) rfl)))) ?_
    refine zp_getf (n := (A 2 : Int)) (pc := 21) hx hb hEξ hwξ (zd_X11_asks (21, .getfield 135, 3, 0, []) (List.mem_of_getElem? (i := 11) rfl)) (j := 24) rfl rfl rfl (zM_P hMξ (hYbξ _ (List.mem_of_getElem? (i := 1) rfl))) ((zM_G hMξ (hYbξ _ (List.mem_of_getElem? (i := 1) rfl)) 18).trans (zM_F hMξ (hFbξ _ (List.mem_of_getElem? (i := 24) rfl)))) ?_
    refine zp_load (pc := 24) hx hb (zd_X11_asks (24, .iload_n 1, 1, 0, []) (List.mem_of_getElem? (i := 12) rfl)) rfl (j := 1) rfl ?_
    refine zp_call (pc := 25) (how := 0) (idx := 295) (mi := 90) (S := []) hx hb hEξ hwξ heffξ hrmξ (zX_abt2 hWξ A Y F V Lwξ) rfl (j := 34) rfl rfl (by decide +kernel) (zd_X11_asks (25, .invokevirtual 295, 3, 0, []) (List.mem_of_getElem? (i := 13) rfl)) [(A 4 : Int), (A 1 : Int), (A 2 : Int), p1ξ] rfl ⟨zp_o2 (zM_P hMξ (hYbξ _ (List.mem_of_getElem? (i := 4) rfl))), zp_o2 (zM_P hMξ (hYbξ _ (List.mem_of_getElem? (i := 1) rfl))), zp_o2 (zM_P hMξ (hYbξ _ (List.mem_of_getElem? (i := 2) rfl))), zp_o0 (by omega) (by omega) (by omega) (by omega), trivial⟩ (Nat.le_of_ble_eq_true rfl) ⟨⟨M, hMξ, hVξ, trivial⟩, rfl, hYF0ξ, rfl, rfl, hlwξ⟩ (fun al halξ rnab595ξ Pab595 Gab595 hextab595ξ hfrab595ξ hokab595ξ hcsab595ξ hpsiab595ξ => ?_)
    obtain rfl := List.mem_singleton.mp halξ
    obtain ⟨hPeab595ξ, Mab595, hMab595ξ, hVab595ξ, hAbab595ξ⟩ := hpsiab595ξ
    have hAbab595ξ : zAb A Y F V Lwξ (zRc V 2 50) p1ξ Mab595 := hAbab595ξ
    subst hPeab595ξ
    clear hextab595ξ hfrab595ξ hokab595ξ hcsab595ξ
    refine zp_load (pc := 28) hx hb (zd_X11_asks (28, .iload_n 2, 1, 0, []) (List.mem_of_getElem? (i := 14) rfl)) rfl (j := 2) rfl ?_
    by_cases hc596ξ : p2ξ = 0
    · refine zp_lsw (tgt := 56) (off := 27) (pc := 29) hx hb (zd_X11_asks (29, .lookupswitch 43 #[(0, 27), (1, 35)], 27, 0, []) (List.mem_of_getElem? (i := 15) rfl)) (by decide) (by rw [hc596ξ]; rfl) rfl ?_
      refine zp_load (pc := 56) hx hb (zd_X11_asks (56, .aload_n 0, 1, 0, []) (List.mem_of_getElem? (i := 16) rfl)) rfl (j := 0) rfl ?_
      refine zp_getf (n := (A 4 : Int)) (pc := 57) hx hb hEξ hwξ (zd_X11_asks (57, .getfield 30, 3, 0, []) (List.mem_of_getElem? (i := 17) rfl)) (j := 53) rfl rfl rfl (zM_P hMab595ξ (hYbξ _ (List.mem_of_getElem? (i := 0) rfl))) ((zM_G hMab595ξ (hYbξ _ (List.mem_of_getElem? (i := 0) rfl)) 3).trans (zM_F hMab595ξ (hFbξ _ (List.mem_of_getElem? (i := 3) rfl)))) ?_
      have hlr597ξ := zg_lawM hMab595ξ hYF0ξ hVab595ξ hAbab595ξ (pw := (-1)) (hrξ := (-1)) (p := (-1)) (o := (-1)) (l := (-1)) (by omega) (by omega) (by omega) (by omega) (by omega) (by rfl) (by rfl)
      have habr597ξ := (hAbab595ξ).1.1
      refine zp_call (pc := 60) (how := 0) (idx := 299) (mi := 92) (S := []) hx hb hEξ hwξ heffξ hrmξ (zX_we_ hWξ (A 66) (fun j => Mab595 66 (2000 + j)) (zg_ew (zRc V 2 50) zd_S0 p1ξ (-1) (-1) (-1)) Lwξ) rfl (j := 35) rfl rfl (by decide +kernel) (zd_X11_asks (60, .invokevirtual 299, 3, 0, []) (List.mem_of_getElem? (i := 18) rfl)) [(A 4 : Int)] rfl ⟨zp_o2 (zM_P hMab595ξ (hYbξ _ (List.mem_of_getElem? (i := 4) rfl))), trivial⟩ (Nat.le_of_ble_eq_true rfl) ⟨hlr597ξ, (show 0 ≤ Mab595 66 (2000 + 0) by omega), (show Mab595 66 (2000 + 0) ≤ 1000 by omega)⟩ (fun al halξ rnr597ξ Pr597 Gr597 hextr597ξ hfrr597ξ hokr597ξ hcsr597ξ hpsir597ξ => ?_)
      obtain rfl := List.mem_singleton.mp halξ
      have hrr597ξ := zp_int (hokr597ξ _ rfl).1
      obtain ⟨hPer597ξ, hWnr597ξ, htr597ξ⟩ := hpsir597ξ
      obtain ⟨Mr597, hMr597ξ, hMkr597ξ, hM6r597ξ⟩ := zM_rul hMab595ξ hYF0ξ hfrr597ξ hextr597ξ
      subst hPer597ξ
      have hVr597ξ : ∀ o k, zNc o → Mr597 o k = V o k := fun o k hkξ => (hMkr597ξ o k (fun e => hkξ (by rw [e]; decide)) (fun e => hkξ (by rw [e]; decide))).trans (hVab595ξ o k hkξ)
      have hAbr597ξ := zAb_n (hAbab595ξ) (fun j => (hM6r597ξ (2000 + j)).trans (hWnr597ξ j)) hlr597ξ.1.2.2.2.2.1 (hMkr597ξ 4 2 (by decide) (by decide))
      clear hextr597ξ hfrr597ξ hokr597ξ hcsr597ξ hlr597ξ
      have htr597ξ : rnr597ξ = (zy_we (zg_ew (zRc V 2 50) zd_S0 p1ξ (-1) (-1) (-1)) Lwξ p1ξ) := by
        have h9ξ : rnr597ξ = zy_we (zg_ew (zRc V 2 50) zd_S0 p1ξ (-1) (-1) (-1)) Lwξ (Mab595 66 (2000 + 0)) := htr597ξ
        rw [habr597ξ] at h9ξ
        exact h9ξ
      have hbr597ξ : 0 ≤ (zy_we (zg_ew (zRc V 2 50) zd_S0 p1ξ (-1) (-1) (-1)) Lwξ p1ξ) ∧ (zy_we (zg_ew (zRc V 2 50) zd_S0 p1ξ (-1) (-1) (-1)) Lwξ p1ξ) ≤ 999 := zy_web (by omega) (by omega)
      have htr597ξ := (Eq.symm htr597ξ)
      subst htr597ξ
      refine zp_iret (pc := 63) (n := (zy_we (zg_ew (zRc V 2 50) zd_S0 p1ξ (-1) (-1) (-1)) Lwξ p1ξ)) hx hb hEξ hQξ hU5ξ rfl (by decide) (zd_X11_asks (63, .ireturn, 1, 0, []) (List.mem_of_getElem? (i := 19) rfl)) (j := 0) rfl (zp_o0 (by omega) (by omega) (by omega) (by omega)) ?_
      rw [hpsξ]
      refine ⟨rfl, ?_⟩
      have hffξ : zf_askc V Lwξ p1ξ p2ξ = ((zy_we (zg_ew (zRc V 2 50) zd_S0 p1ξ (-1) (-1) (-1)) Lwξ p1ξ), V) := by
        unfold zf_askc
        rw [if_pos ((Iff.mp htn591ξ) (by omega)), if_pos hc596ξ]
      show zMVc A Y F (zf_askc V Lwξ p1ξ p2ξ).2 u.1 Gr597 ∧ (zy_we (zg_ew (zRc V 2 50) zd_S0 p1ξ (-1) (-1) (-1)) Lwξ p1ξ) = (zf_askc V Lwξ p1ξ p2ξ).1
      rw [hffξ]
      exact ⟨⟨Mr597, hMr597ξ, hVr597ξ, trivial⟩, rfl⟩
    by_cases hc598ξ : p2ξ = 1
    · refine zp_lsw (tgt := 64) (off := 35) (pc := 29) hx hb (zd_X11_asks (29, .lookupswitch 43 #[(0, 27), (1, 35)], 27, 0, []) (List.mem_of_getElem? (i := 15) rfl)) (by decide) (by rw [hc598ξ]; rfl) rfl ?_
      refine zp_load (pc := 64) hx hb (zd_X11_asks (64, .aload_n 0, 1, 0, []) (List.mem_of_getElem? (i := 20) rfl)) rfl (j := 0) rfl ?_
      refine zp_getf (n := (A 4 : Int)) (pc := 65) hx hb hEξ hwξ (zd_X11_asks (65, .getfield 30, 3, 0, []) (List.mem_of_getElem? (i := 21) rfl)) (j := 53) rfl rfl rfl (zM_P hMab595ξ (hYbξ _ (List.mem_of_getElem? (i := 0) rfl))) ((zM_G hMab595ξ (hYbξ _ (List.mem_of_getElem? (i := 0) rfl)) 3).trans (zM_F hMab595ξ (hFbξ _ (List.mem_of_getElem? (i := 3) rfl)))) ?_
      have hlr599ξ := zg_lawM hMab595ξ hYF0ξ hVab595ξ hAbab595ξ (pw := (-1)) (hrξ := (-1)) (p := (-1)) (o := (-1)) (l := (-1)) (by omega) (by omega) (by omega) (by omega) (by omega) (by rfl) (by rfl)
      have habr599ξ := (hAbab595ξ).1.1
      refine zp_call (pc := 68) (how := 0) (idx := 302) (mi := 119) (S := []) hx hb hEξ hwξ heffξ hrmξ (zX_sn_ hWξ (A 66) (fun j => Mab595 66 (2000 + j)) (zg_ew (zRc V 2 50) zd_S0 p1ξ (-1) (-1) (-1)) Lwξ) rfl (j := 42) rfl rfl (by decide +kernel) (zd_X11_asks (68, .invokevirtual 302, 3, 0, []) (List.mem_of_getElem? (i := 22) rfl)) [(A 4 : Int)] rfl ⟨zp_o2 (zM_P hMab595ξ (hYbξ _ (List.mem_of_getElem? (i := 4) rfl))), trivial⟩ (Nat.le_of_ble_eq_true rfl) ⟨hlr599ξ, (show 0 ≤ Mab595 66 (2000 + 0) by omega), (show Mab595 66 (2000 + 0) ≤ 1000 by omega)⟩ (fun al halξ rnr599ξ Pr599 Gr599 hextr599ξ hfrr599ξ hokr599ξ hcsr599ξ hpsir599ξ => ?_)
      obtain rfl := List.mem_singleton.mp halξ
      have hrr599ξ := zp_int (hokr599ξ _ rfl).1
      obtain ⟨hPer599ξ, hWnr599ξ, htr599ξ⟩ := hpsir599ξ
      obtain ⟨Mr599, hMr599ξ, hMkr599ξ, hM6r599ξ⟩ := zM_rul hMab595ξ hYF0ξ hfrr599ξ hextr599ξ
      subst hPer599ξ
      have hVr599ξ : ∀ o k, zNc o → Mr599 o k = V o k := fun o k hkξ => (hMkr599ξ o k (fun e => hkξ (by rw [e]; decide)) (fun e => hkξ (by rw [e]; decide))).trans (hVab595ξ o k hkξ)
      have hAbr599ξ := zAb_n (hAbab595ξ) (fun j => (hM6r599ξ (2000 + j)).trans (hWnr599ξ j)) hlr599ξ.1.2.2.2.2.1 (hMkr599ξ 4 2 (by decide) (by decide))
      clear hextr599ξ hfrr599ξ hokr599ξ hcsr599ξ hlr599ξ
      have htr599ξ : rnr599ξ = (zy_sn (zg_ew (zRc V 2 50) zd_S0 p1ξ (-1) (-1) (-1)) Lwξ p1ξ) := by
        have h9ξ : rnr599ξ = zy_sn (zg_ew (zRc V 2 50) zd_S0 p1ξ (-1) (-1) (-1)) Lwξ (Mab595 66 (2000 + 0)) := htr599ξ
        rw [habr599ξ] at h9ξ
        exact h9ξ
      have hbr599ξ : 0 ≤ (zy_sn (zg_ew (zRc V 2 50) zd_S0 p1ξ (-1) (-1) (-1)) Lwξ p1ξ) ∧ (zy_sn (zg_ew (zRc V 2 50) zd_S0 p1ξ (-1) (-1) (-1)) Lwξ p1ξ) ≤ 100 := zy_snb (by omega) (by omega)
      have htr599ξ := (Eq.symm htr599ξ)
      subst htr599ξ
      refine zp_iret (pc := 71) (n := (zy_sn (zg_ew (zRc V 2 50) zd_S0 p1ξ (-1) (-1) (-1)) Lwξ p1ξ)) hx hb hEξ hQξ hU5ξ rfl (by decide) (zd_X11_asks (71, .ireturn, 1, 0, []) (List.mem_of_getElem? (i := 23) rfl)) (j := 0) rfl (zp_o0 (by omega) (by omega) (by omega) (by omega)) ?_
      rw [hpsξ]
      refine ⟨rfl, ?_⟩
      have hffξ : zf_askc V Lwξ p1ξ p2ξ = ((zy_sn (zg_ew (zRc V 2 50) zd_S0 p1ξ (-1) (-1) (-1)) Lwξ p1ξ), V) := by
        unfold zf_askc
        rw [if_pos ((Iff.mp htn591ξ) (by omega)), if_neg hc596ξ, if_pos hc598ξ]
      show zMVc A Y F (zf_askc V Lwξ p1ξ p2ξ).2 u.1 Gr599 ∧ (zy_sn (zg_ew (zRc V 2 50) zd_S0 p1ξ (-1) (-1) (-1)) Lwξ p1ξ) = (zf_askc V Lwξ p1ξ p2ξ).1
      rw [hffξ]
      exact ⟨⟨Mr599, hMr599ξ, hVr599ξ, trivial⟩, rfl⟩
    refine zp_lsw (tgt := 72) (off := 43) (pc := 29) hx hb (zd_X11_asks (29, .lookupswitch 43 #[(0, 27), (1, 35)], 27, 0, []) (List.mem_of_getElem? (i := 15) rfl)) (by decide) (show Op.lookupswitch.offset [(0, 27), (1, 35)] 43 p2ξ = 43 by rw [Op.lookupswitch.offset_cons, if_neg (by omega), Op.lookupswitch.offset_cons, if_neg (by omega)]; rfl) rfl ?_
    refine zp_const (pc := 72) hx hb (zd_X11_asks (72, .iconst (-1), 1, 0, []) (List.mem_of_getElem? (i := 24) rfl)) rfl rfl ?_
    refine zp_iret (pc := 73) (n := (-1)) hx hb hEξ hQξ hU5ξ rfl (by decide) (zd_X11_asks (73, .ireturn, 1, 0, []) (List.mem_of_getElem? (i := 25) rfl)) (j := 0) rfl (zp_o0 (by omega) (by omega) (by omega) (by omega)) ?_
    rw [hpsξ]
    refine ⟨rfl, ?_⟩
    have hffξ : zf_askc V Lwξ p1ξ p2ξ = ((-1), V) := by
      unfold zf_askc
      rw [if_pos ((Iff.mp htn591ξ) (by omega)), if_neg hc596ξ, if_neg hc598ξ]
    show zMVc A Y F (zf_askc V Lwξ p1ξ p2ξ).2 u.1 Gab595 ∧ (-1) = (zf_askc V Lwξ p1ξ p2ξ).1
    rw [hffξ]
    exact ⟨⟨Mab595, hMab595ξ, hVab595ξ, trivial⟩, rfl⟩
  · have hbf594ξ : ¬ (0 ≤ p1ξ ∧ p1ξ ≤ 12) := fun h9ξ => absurd ((Iff.mpr htn591ξ) h9ξ) (by omega)
    refine zp_const (pc := 7) hx hb (zd_X11_asks (7, .iconst (-1), 1, 0, []) (List.mem_of_getElem? (i := 3) rfl)) rfl rfl ?_
    refine zp_iret (pc := 8) (n := (-1)) hx hb hEξ hQξ hU5ξ rfl (by decide) (zd_X11_asks (8, .ireturn, 1, 0, []) (List.mem_of_getElem? (i := 4) rfl)) (j := 0) rfl (zp_o0 (by omega) (by omega) (by omega) (by omega)) ?_
    rw [hpsξ]
    refine ⟨rfl, ?_⟩
    have hffξ : zf_askc V Lwξ p1ξ p2ξ = ((-1), V) := by
      unfold zf_askc
      rw [if_neg (fun h9ξ => absurd ((Iff.mpr htn591ξ) h9ξ) (by omega))]
    show zMVc A Y F (zf_askc V Lwξ p1ξ p2ξ).2 u.1 (zp_n u.2.1) ∧ (-1) = (zf_askc V Lwξ p1ξ p2ξ).1
    rw [hffξ]
    exact ⟨⟨M, hMξ, hVξ, trivial⟩, rfl⟩