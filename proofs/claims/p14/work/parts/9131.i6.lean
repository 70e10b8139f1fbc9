/-! part i6: the class over logical cells: doings -/
theorem zy_web {en : Int → Int → Int} {M : List yK} {t : Int} (h0ξ : 0 ≤ t) (h1ξ : t ≤ 12) : 0 ≤ zy_we en M t ∧ zy_we en M t ≤ 999 := by
  unfold zy_we
  split
  · have h2ξ := zg_sq (t := t) ⟨h0ξ, by omega⟩
    have h3ξ : t * t ≤ 12 * 12 := Int.mul_le_mul h1ξ h1ξ h0ξ (by decide)
    omega
  · omega
theorem zy_snb {en : Int → Int → Int} {M : List yK} {t : Int} (h0ξ : 0 ≤ t) (h1ξ : t ≤ 12) : 0 ≤ zy_sn en M t ∧ zy_sn en M t ≤ 100 := by
  unfold zy_sn
  split <;> omega
noncomputable def zf_mot1 (V : Nat → Nat → Int) : Int × (Nat → Nat → Int) := if ¬ ((V 2 6) % 7) = 6 then (12, V) else ((V 1 16), V)
noncomputable def zK_mot1 : zk_K := (zt_mn 87, prog_11_method_11_code, 2, (Option.some Jvm.ClassFile.FieldType.int), 1, 9, [(2, 10, 0, 0), (2, 2, 0, 0)], [(some (0, 0, (-2147483648), 2147483647), [])], zUC, (0, 0, 0, 0))
noncomputable def zφ_mot1 (A : Nat → Nat) (Y : List (Nat × Nat)) (F : List (Nat × Nat × Nat)) (V : Nat → Nat → Int) : (Nat → Option Nat) → (Nat → Nat → Int) → List Int → Prop := fun P G ps => zMVc A Y F V P G ∧ ps.getD 0 0 = (A 1 : Int) ∧ zMc Y F ∧ (ps.getD 1 0) = (A 2 : Int) ∧ 0 ≤ V 2 6 ∧ V 2 6 ≤ 9999
noncomputable def zψ_mot1 (A : Nat → Nat) (Y : List (Nat × Nat)) (F : List (Nat × Nat × Nat)) (V : Nat → Nat → Int) : (Nat → Option Nat) → (Nat → Nat → Int) → List Int → (Nat → Option Nat) → (Nat → Nat → Int) → Int → Prop := fun P G ps P' G' rn => P' = P ∧ zMVc A Y F (zf_mot1 V).2 P' G' ∧ rn = (zf_mot1 V).1
theorem zX_mot1 {l : Launch} {w : zk_W} (hWξ : zh_W w) (A : Nat → Nat) (Y : List (Nat × Nat)) (F : List (Nat × Nat × Nat)) (V : Nat → Nat → Int) : zk_metX l w zt_dv zt_TB zK_mot1 (zp_A (zφ_mot1 A Y F V)) (zp_B (zψ_mot1 A Y F V)) ∧ zk_cok w zt_TB zK_mot1 := by
  refine zp_methX (cn := "WoundTown$Town") zp_lkallN hWξ (pl := 925) rfl (by decide +kernel) (fun p e R s m args below meth c Q u hx hb hEξ hQξ hU5ξ heffξ hnLξ hokξ hφ => ?_)
  have hwξ := hWξ.1
  obtain ⟨p0ξ, p1ξ, hpsξ, tk0, tk1⟩ := zp_ps2 hokξ
  have hrmξ : zk_Kr (zk_ev (zt_types, zp_lkN, zt_dv, [], [], zp_lcN, zK_mot1)) = zk_Kr zK_mot1 := rfl
  rw [hpsξ] at hφ ⊢
  have hφ : zMVc A Y F V u.1 (zp_n u.2.1) ∧ p0ξ = (A 1 : Int) ∧ zMc Y F ∧ p1ξ = (A 2 : Int) ∧ 0 ≤ V 2 6 ∧ V 2 6 ≤ 9999 := hφ
  obtain ⟨⟨M, hMξ, hVξ, hSbξ⟩, rfl, hYFξ, rfl, hdy0ξ, hdy1ξ⟩ := hφ
  have hYF0ξ := hYFξ
  obtain ⟨hYbξ, hFbξ, hFxξ, -⟩ := hYFξ
  show zp_J p l e R s m args below meth c Q w u [] 0 [(0, 2, (A 1 : Int)), (1, 2, (A 2 : Int))] [] u.1 (zp_n u.2.1)
  refine zp_load (pc := 0) hx hb (zd_X9_mostTurns (0, .aload_n 1, 1, 0, []) (List.mem_of_getElem? (i := 0) rfl)) rfl (j := 1) rfl ?_
  refine zp_getf (n := (V 2 6)) (pc := 1) hx hb hEξ hwξ (zd_X9_mostTurns (1, .getfield 103, 3, 0, []) (List.mem_of_getElem? (i := 1) rfl)) (j := 6) rfl rfl rfl (zM_P hMξ (hYbξ _ (List.mem_of_getElem? (i := 2) rfl))) ((zM_G hMξ (hYbξ _ (List.mem_of_getElem? (i := 2) rfl)) 6).trans (hVξ 2 6 (by decide))) ?_
  refine zp_kn (k := 6) (a := (A 2)) hwξ (show zp_fd 2 6 = some (2, 0, 0, (-2147483648), 2147483647) from rfl) rfl (zM_P hMξ (hYbξ _ (List.mem_of_getElem? (i := 2) rfl))) (fun hf529ξ => ?_)
  have hf529bξ := zp_int hf529ξ
  rw [((zM_G hMξ (hYbξ _ (List.mem_of_getElem? (i := 2) rfl)) 6).trans (hVξ 2 6 (by decide)))] at hf529bξ
  clear hf529ξ
  refine zp_const (pc := 4) hx hb (zd_X9_mostTurns (4, .bipush 7, 2, 0, []) (List.mem_of_getElem? (i := 2) rfl)) rfl rfl ?_
  refine zp_iremx (n := ((V 2 6) % 7)) (pc := 6) hx hb (zd_X9_mostTurns (6, .irem, 1, 0, []) (List.mem_of_getElem? (i := 3) rfl)) (by decide) (Int.tmod_eq_emod_of_nonneg (by omega)) (zp_r0 (by omega) (by omega)) ?_
  refine zp_const (pc := 7) hx hb (zd_X9_mostTurns (7, .bipush 6, 2, 0, []) (List.mem_of_getElem? (i := 4) rfl)) rfl rfl ?_
  refine zp_icmp (pc := 9) (tgt := 19) hx hb (zd_X9_mostTurns (9, .if_icmp .ne 10, 3, 0, []) (List.mem_of_getElem? (i := 5) rfl)) rfl (fun (hc530ξ : ¬ ((V 2 6) % 7) = 6) => ?_) (fun (hc530ξ : ¬ (¬ ((V 2 6) % 7) = 6)) => ?_)
  · refine zp_const (pc := 19) hx hb (zd_X9_mostTurns (19, .bipush 12, 2, 0, []) (List.mem_of_getElem? (i := 9) rfl)) rfl rfl ?_
    refine zp_iret (pc := 21) (n := 12) hx hb hEξ hQξ hU5ξ rfl (by decide) (zd_X9_mostTurns (21, .ireturn, 1, 0, []) (List.mem_of_getElem? (i := 10) rfl)) (j := 0) rfl (zp_o0 (by omega) (by omega) (by omega) (by omega)) ?_
    rw [hpsξ]
    refine ⟨rfl, ?_⟩
    have hffξ : zf_mot1 V = (12, V) := by
      unfold zf_mot1
      rw [if_pos hc530ξ]
    show zMVc A Y F (zf_mot1 V).2 u.1 (zp_n u.2.1) ∧ 12 = (zf_mot1 V).1
    rw [hffξ]
    exact ⟨⟨M, hMξ, hVξ, trivial⟩, rfl⟩
  · refine zp_load (pc := 12) hx hb (zd_X9_mostTurns (12, .aload_n 0, 1, 0, []) (List.mem_of_getElem? (i := 6) rfl)) rfl (j := 0) rfl ?_
    refine zp_getf (n := (V 1 16)) (pc := 13) hx hb hEξ hwξ (zd_X9_mostTurns (13, .getfield 52, 3, 0, []) (List.mem_of_getElem? (i := 7) rfl)) (j := 23) rfl rfl rfl (zM_P hMξ (hYbξ _ (List.mem_of_getElem? (i := 1) rfl))) ((zM_G hMξ (hYbξ _ (List.mem_of_getElem? (i := 1) rfl)) 16).trans (hVξ 1 16 (by decide))) ?_
    refine zp_kn (k := 16) (a := (A 1)) hwξ (show zp_fd 10 16 = some (9, 0, 0, (-2147483648), 2147483647) from rfl) rfl (zM_P hMξ (hYbξ _ (List.mem_of_getElem? (i := 1) rfl))) (fun hf531ξ => ?_)
    have hf531bξ := zp_int hf531ξ
    rw [((zM_G hMξ (hYbξ _ (List.mem_of_getElem? (i := 1) rfl)) 16).trans (hVξ 1 16 (by decide)))] at hf531bξ
    clear hf531ξ
    refine zp_goto (tgt := 21) (pc := 16) hx hb (zd_X9_mostTurns (16, .goto 5, 3, 0, []) (List.mem_of_getElem? (i := 8) rfl)) rfl ?_
    refine zp_iret (pc := 21) (n := (V 1 16)) hx hb hEξ hQξ hU5ξ rfl (by decide) (zd_X9_mostTurns (21, .ireturn, 1, 0, []) (List.mem_of_getElem? (i := 10) rfl)) (j := 0) rfl (zp_o0 (by omega) (by omega) (by omega) (by omega)) ?_
    rw [hpsξ]
    refine ⟨rfl, ?_⟩
    have hffξ : zf_mot1 V = ((V 1 16), V) := by
      unfold zf_mot1
      rw [if_neg hc530ξ]
    show zMVc A Y F (zf_mot1 V).2 u.1 (zp_n u.2.1) ∧ (V 1 16) = (zf_mot1 V).1
    rw [hffξ]
    exact ⟨⟨M, hMξ, hVξ, trivial⟩, rfl⟩
theorem zf_mot1_f {V : Nat → Nat → Int} {o k : Nat} (h9ξ : o ∉ ([] : List Nat)) : (zf_mot1 V).2 o k = V o k := by
  unfold zf_mot1
  by_cases hd2ξ : ¬ ((V 2 6) % 7) = 6
  · rw [if_pos hd2ξ]
  · rw [if_neg hd2ξ]
noncomputable def zf_wnbc (V : Nat → Nat → Int) (Lwξ : List yK) (p1ξ : Int) : Int × (Nat → Nat → Int) := if 0 ≤ p1ξ ∧ p1ξ ≤ 12 then if ¬ (V 2 5) = (-1) then ((-3), V) else if ¬ (V 2 4) = 0 then ((-3), V) else if p1ξ ≤ ((zf_mot1 V).1) then (((zf_wby2 (zf_kep3 (zf_mot1 V).2 0).2 p1ξ (zy_we (zg_ew (zRc (zf_kep3 (zf_mot1 V).2 0).2 2 50) zd_S0 p1ξ (-1) (-1) (-1)) Lwξ p1ξ)).2 2 3), (zf_wby2 (zf_kep3 (zf_mot1 V).2 0).2 p1ξ (zy_we (zg_ew (zRc (zf_kep3 (zf_mot1 V).2 0).2 2 50) zd_S0 p1ξ (-1) (-1) (-1)) Lwξ p1ξ)).2) else ((-3), (zf_mot1 V).2) else ((-1), V)
noncomputable def zK_wnbc : zk_K := (zt_mn 85, prog_1_method_23_code, 3, (Option.some Jvm.ClassFile.FieldType.int), 1, 11, [(2, 12, 0, 0), (0, 0, (-2147483648), 2147483647)], [(some (0, 0, (-2147483648), 2147483647), [])], zUC, (4, 240, 0, 0))
noncomputable def zφ_wnbc (A : Nat → Nat) (Y : List (Nat × Nat)) (F : List (Nat × Nat × Nat)) (V : Nat → Nat → Int) (Lwξ : List yK) : (Nat → Option Nat) → (Nat → Nat → Int) → List Int → Prop := fun P G ps => zMVc A Y F V P G ∧ ps.getD 0 0 = (A 0 : Int) ∧ zMc Y F ∧ 0 ≤ V 2 3 ∧ V 2 3 ≤ 9999 ∧ (0 ≤ V 2 6 ∧ V 2 6 ≤ 9999) ∧ zLF A Y F V Lwξ
noncomputable def zψ_wnbc (A : Nat → Nat) (Y : List (Nat × Nat)) (F : List (Nat × Nat × Nat)) (V : Nat → Nat → Int) (Lwξ : List yK) : (Nat → Option Nat) → (Nat → Nat → Int) → List Int → (Nat → Option Nat) → (Nat → Nat → Int) → Int → Prop := fun P G ps P' G' rn => P' = P ∧ zMVc A Y F (zf_wnbc V Lwξ (ps.getD 1 0)).2 P' G' ∧ rn = (zf_wnbc V Lwξ (ps.getD 1 0)).1
theorem zX_wnbc {l : Launch} {w : zk_W} (hWξ : zh_W w) (A : Nat → Nat) (Y : List (Nat × Nat)) (F : List (Nat × Nat × Nat)) (V : Nat → Nat → Int) (Lwξ : List yK) : zk_metX l w zt_dv zt_TB zK_wnbc (zp_A (zφ_wnbc A Y F V Lwξ)) (zp_B (zψ_wnbc A Y F V Lwξ)) ∧ zk_cok w zt_TB zK_wnbc := by
  refine zp_methX (cn := "WoundTown") zp_lkallW hWξ (pl := 918) rfl (by decide +kernel) (fun p e R s m args below meth c Q u hx hb hEξ hQξ hU5ξ heffξ hnLξ hokξ hφ => ?_)
  have hwξ := hWξ.1
  obtain ⟨p0ξ, p1ξ, hpsξ, tk0, tk1⟩ := zp_ps2 hokξ
  have hrmξ : zk_Kr (zk_ev (zt_types, zp_lkW, zt_dv, [], [], zp_lcW, zK_wnbc)) = zk_Kr zK_wnbc := rfl
  rw [hpsξ] at hφ ⊢
  have hφ : zMVc A Y F V u.1 (zp_n u.2.1) ∧ p0ξ = (A 0 : Int) ∧ zMc Y F ∧ 0 ≤ V 2 3 ∧ V 2 3 ≤ 9999 ∧ (0 ≤ V 2 6 ∧ V 2 6 ≤ 9999) ∧ zLF A Y F V Lwξ := hφ
  obtain ⟨⟨M, hMξ, hVξ, hSbξ⟩, rfl, hYFξ, hlf0ξ, hlf1ξ, ⟨hdy0ξ, hdy1ξ⟩, hlwξ⟩ := hφ
  have hYF0ξ := hYFξ
  obtain ⟨hYbξ, hFbξ, hFxξ, -⟩ := hYFξ
  have hi1ξ := zp_int tk1
  show zp_J p l e R s m args below meth c Q w u [] 0 [(0, 2, (A 0 : Int)), (1, 0, p1ξ)] [] u.1 (zp_n u.2.1)
  refine zp_load (pc := 0) hx hb (zd_X11_windBy (0, .aload_n 0, 1, 0, []) (List.mem_of_getElem? (i := 0) rfl)) rfl (j := 0) rfl ?_
  refine zp_getf (n := (A 1 : Int)) (pc := 1) hx hb hEξ hwξ (zd_X11_windBy (1, .getfield 10, 3, 0, []) (List.mem_of_getElem? (i := 1) rfl)) (j := 50) rfl rfl rfl (zM_P hMξ (hYbξ _ (List.mem_of_getElem? (i := 0) rfl))) ((zM_G hMξ (hYbξ _ (List.mem_of_getElem? (i := 0) rfl)) 0).trans (zM_F hMξ (hFbξ _ (List.mem_of_getElem? (i := 0) rfl)))) ?_
  refine zp_getf (n := (A 2 : Int)) (pc := 4) hx hb hEξ hwξ (zd_X11_windBy (4, .getfield 135, 3, 0, []) (List.mem_of_getElem? (i := 2) rfl)) (j := 24) rfl rfl rfl (zM_P hMξ (hYbξ _ (List.mem_of_getElem? (i := 1) rfl))) ((zM_G hMξ (hYbξ _ (List.mem_of_getElem? (i := 1) rfl)) 18).trans (zM_F hMξ (hFbξ _ (List.mem_of_getElem? (i := 24) rfl)))) ?_
  refine zp_store (L' := [(2, 2, (A 2 : Int)), (0, 2, (A 0 : Int)), (1, 0, p1ξ)]) (pc := 7) hx hb hnLξ (zd_X11_windBy (7, .astore_n 2, 1, 0, []) (List.mem_of_getElem? (i := 3) rfl)) rfl rfl rfl ?_
  refine zp_load (pc := 8) hx hb (zd_X11_windBy (8, .iload_n 1, 1, 0, []) (List.mem_of_getElem? (i := 4) rfl)) rfl (j := 2) rfl ?_
  refine zp_call (pc := 9) (how := 1) (idx := 292) (mi := 86) (S := []) hx hb hEξ hwξ heffξ hrmξ (zX_art hWξ) rfl (j := 31) rfl rfl (by decide +kernel) (zd_X11_windBy (9, .invokestatic 292, 3, 0, []) (List.mem_of_getElem? (i := 5) rfl)) [p1ξ] rfl ⟨zp_o0 (by omega) (by omega) (by omega) (by omega), trivial⟩ (Nat.le_of_ble_eq_true rfl) trivial (fun al halξ rnn532ξ Pn532 Gn532 hextn532ξ hfrn532ξ hokn532ξ hcsn532ξ hpsin532ξ => ?_)
  obtain rfl := List.mem_singleton.mp halξ
  have hrn532ξ := zp_int (hokn532ξ _ rfl).1
  obtain ⟨hPen532ξ, hGen532ξ, htn532ξ⟩ := hpsin532ξ
  rw [hPen532ξ, hGen532ξ]
  clear hextn532ξ hfrn532ξ hcsn532ξ hPen532ξ hGen532ξ
  have htn532ξ : rnn532ξ = 1 ↔ 0 ≤ p1ξ ∧ p1ξ ≤ 12 := htn532ξ
  refine zp_if (pc := 12) (tgt := 17) hx hb (zd_X11_windBy (12, .ifCond .ne 5, 3, 0, []) (List.mem_of_getElem? (i := 6) rfl)) rfl (fun (hc533ξ : ¬ rnn532ξ = 0) => ?_) (fun (hc533ξ : ¬ (¬ rnn532ξ = 0)) => ?_)
  · have hbt534ξ := (Iff.mp htn532ξ) (by omega)
    refine zp_load (pc := 17) hx hb (zd_X11_windBy (17, .aload_n 2, 1, 0, []) (List.mem_of_getElem? (i := 9) rfl)) rfl (j := 0) rfl ?_
    refine zp_getf (n := (V 2 5)) (pc := 18) hx hb hEξ hwξ (zd_X11_windBy (18, .getfield 280, 3, 0, []) (List.mem_of_getElem? (i := 10) rfl)) (j := 7) rfl rfl rfl (zM_P hMξ (hYbξ _ (List.mem_of_getElem? (i := 2) rfl))) ((zM_G hMξ (hYbξ _ (List.mem_of_getElem? (i := 2) rfl)) 5).trans (hVξ 2 5 (by decide))) ?_
    refine zp_kn (k := 5) (a := (A 2)) hwξ (show zp_fd 2 5 = some (2, 0, 0, (-2147483648), 2147483647) from rfl) rfl (zM_P hMξ (hYbξ _ (List.mem_of_getElem? (i := 2) rfl))) (fun hf536ξ => ?_)
    have hf536bξ := zp_int hf536ξ
    rw [((zM_G hMξ (hYbξ _ (List.mem_of_getElem? (i := 2) rfl)) 5).trans (hVξ 2 5 (by decide)))] at hf536bξ
    clear hf536ξ
    refine zp_const (pc := 21) hx hb (zd_X11_windBy (21, .iconst (-1), 1, 0, []) (List.mem_of_getElem? (i := 11) rfl)) rfl rfl ?_
    refine zp_icmp (pc := 22) (tgt := 44) hx hb (zd_X11_windBy (22, .if_icmp .ne 22, 3, 0, []) (List.mem_of_getElem? (i := 12) rfl)) rfl (fun (hc537ξ : ¬ (V 2 5) = (-1)) => ?_) (fun (hc537ξ : ¬ (¬ (V 2 5) = (-1))) => ?_)
    · refine zp_const (pc := 44) hx hb (zd_X11_windBy (44, .bipush (-3), 2, 0, []) (List.mem_of_getElem? (i := 22) rfl)) rfl rfl ?_
      refine zp_iret (pc := 46) (n := (-3)) hx hb hEξ hQξ hU5ξ rfl (by decide) (zd_X11_windBy (46, .ireturn, 1, 0, []) (List.mem_of_getElem? (i := 23) rfl)) (j := 0) rfl (zp_o0 (by omega) (by omega) (by omega) (by omega)) ?_
      rw [hpsξ]
      refine ⟨rfl, ?_⟩
      have hffξ : zf_wnbc V Lwξ p1ξ = ((-3), V) := by
        unfold zf_wnbc
        rw [if_pos ((Iff.mp htn532ξ) (by omega)), if_pos hc537ξ]
      show zMVc A Y F (zf_wnbc V Lwξ p1ξ).2 u.1 (zp_n u.2.1) ∧ (-3) = (zf_wnbc V Lwξ p1ξ).1
      rw [hffξ]
      exact ⟨⟨M, hMξ, hVξ, trivial⟩, rfl⟩
    · refine zp_load (pc := 25) hx hb (zd_X11_windBy (25, .aload_n 2, 1, 0, []) (List.mem_of_getElem? (i := 13) rfl)) rfl (j := 0) rfl ?_
      refine zp_getf (n := (V 2 4)) (pc := 26) hx hb hEξ hwξ (zd_X11_windBy (26, .getfield 308, 3, 0, []) (List.mem_of_getElem? (i := 14) rfl)) (j := 6) rfl rfl rfl (zM_P hMξ (hYbξ _ (List.mem_of_getElem? (i := 2) rfl))) ((zM_G hMξ (hYbξ _ (List.mem_of_getElem? (i := 2) rfl)) 4).trans (hVξ 2 4 (by decide))) ?_
      refine zp_kn (k := 4) (a := (A 2)) hwξ (show zp_fd 2 4 = some (2, 0, 0, 0, 1) from rfl) rfl (zM_P hMξ (hYbξ _ (List.mem_of_getElem? (i := 2) rfl))) (fun hf538ξ => ?_)
      have hf538bξ := zp_int hf538ξ
      rw [((zM_G hMξ (hYbξ _ (List.mem_of_getElem? (i := 2) rfl)) 4).trans (hVξ 2 4 (by decide)))] at hf538bξ
      clear hf538ξ
      refine zp_if (pc := 29) (tgt := 44) hx hb (zd_X11_windBy (29, .ifCond .ne 15, 3, 0, []) (List.mem_of_getElem? (i := 15) rfl)) rfl (fun (hc539ξ : ¬ (V 2 4) = 0) => ?_) (fun (hc539ξ : ¬ (¬ (V 2 4) = 0)) => ?_)
      · refine zp_const (pc := 44) hx hb (zd_X11_windBy (44, .bipush (-3), 2, 0, []) (List.mem_of_getElem? (i := 22) rfl)) rfl rfl ?_
        refine zp_iret (pc := 46) (n := (-3)) hx hb hEξ hQξ hU5ξ rfl (by decide) (zd_X11_windBy (46, .ireturn, 1, 0, []) (List.mem_of_getElem? (i := 23) rfl)) (j := 0) rfl (zp_o0 (by omega) (by omega) (by omega) (by omega)) ?_
        rw [hpsξ]
        refine ⟨rfl, ?_⟩
        have hffξ : zf_wnbc V Lwξ p1ξ = ((-3), V) := by
          unfold zf_wnbc
          rw [if_pos ((Iff.mp htn532ξ) (by omega)), if_neg hc537ξ, if_pos hc539ξ]
        show zMVc A Y F (zf_wnbc V Lwξ p1ξ).2 u.1 (zp_n u.2.1) ∧ (-3) = (zf_wnbc V Lwξ p1ξ).1
        rw [hffξ]
        exact ⟨⟨M, hMξ, hVξ, trivial⟩, rfl⟩
      · refine zp_load (pc := 32) hx hb (zd_X11_windBy (32, .iload_n 1, 1, 0, []) (List.mem_of_getElem? (i := 16) rfl)) rfl (j := 2) rfl ?_
        refine zp_load (pc := 33) hx hb (zd_X11_windBy (33, .aload_n 0, 1, 0, []) (List.mem_of_getElem? (i := 17) rfl)) rfl (j := 1) rfl ?_
        refine zp_getf (n := (A 1 : Int)) (pc := 34) hx hb hEξ hwξ (zd_X11_windBy (34, .getfield 10, 3, 0, []) (List.mem_of_getElem? (i := 18) rfl)) (j := 50) rfl rfl rfl (zM_P hMξ (hYbξ _ (List.mem_of_getElem? (i := 0) rfl))) ((zM_G hMξ (hYbξ _ (List.mem_of_getElem? (i := 0) rfl)) 0).trans (zM_F hMξ (hFbξ _ (List.mem_of_getElem? (i := 0) rfl)))) ?_
        refine zp_load (pc := 37) hx hb (zd_X11_windBy (37, .aload_n 2, 1, 0, []) (List.mem_of_getElem? (i := 19) rfl)) rfl (j := 0) rfl ?_
        refine zp_call (pc := 38) (how := 0) (idx := 312) (mi := 87) (S := [(0, p1ξ)]) hx hb hEξ hwξ heffξ hrmξ (zX_mot1 hWξ A Y F V) rfl (j := 32) rfl rfl (by decide +kernel) (zd_X11_windBy (38, .invokevirtual 312, 3, 0, []) (List.mem_of_getElem? (i := 20) rfl)) [(A 1 : Int), (A 2 : Int)] rfl ⟨zp_o2 (zM_P hMξ (hYbξ _ (List.mem_of_getElem? (i := 1) rfl))), zp_o2 (zM_P hMξ (hYbξ _ (List.mem_of_getElem? (i := 2) rfl))), trivial⟩ (Nat.le_of_ble_eq_true rfl) ⟨⟨M, hMξ, hVξ, trivial⟩, rfl, hYF0ξ, rfl, hdy0ξ, hdy1ξ⟩ (fun al halξ rna540ξ Pa540 Ga540 hexta540ξ hfra540ξ hoka540ξ hcsa540ξ hpsia540ξ => ?_)
        obtain rfl := List.mem_singleton.mp halξ
        have hra540ξ := zp_int (hoka540ξ _ rfl).1
        obtain ⟨hPea540ξ, ⟨Ma540, hMa540ξ, hVa540ξ, hSba540ξ⟩, hta540ξ⟩ := hpsia540ξ
        subst hPea540ξ
        clear hexta540ξ hfra540ξ hcsa540ξ hoka540ξ
        have hVa540ξ : ∀ o k, zNc o → Ma540 o k = (zf_mot1 V).2 o k := hVa540ξ
        have hta540ξ : rna540ξ = ((zf_mot1 V).1) := hta540ξ
        have hta540ξ := (Eq.symm hta540ξ)
        subst hta540ξ
        refine zp_icmp (pc := 41) (tgt := 47) hx hb (zd_X11_windBy (41, .if_icmp .le 6, 3, 0, []) (List.mem_of_getElem? (i := 21) rfl)) rfl (fun (hc541ξ : p1ξ ≤ ((zf_mot1 V).1)) => ?_) (fun (hc541ξ : ¬ (p1ξ ≤ ((zf_mot1 V).1))) => ?_)
        · refine zp_load (pc := 47) hx hb (zd_X11_windBy (47, .aload_n 0, 1, 0, []) (List.mem_of_getElem? (i := 24) rfl)) rfl (j := 1) rfl ?_
          refine zp_getf (n := (A 3 : Int)) (pc := 48) hx hb hEξ hwξ (zd_X11_windBy (48, .getfield 23, 3, 0, []) (List.mem_of_getElem? (i := 25) rfl)) (j := 52) rfl rfl rfl (zM_P hMa540ξ (hYbξ _ (List.mem_of_getElem? (i := 0) rfl))) ((zM_G hMa540ξ (hYbξ _ (List.mem_of_getElem? (i := 0) rfl)) 2).trans (zM_F hMa540ξ (hFbξ _ (List.mem_of_getElem? (i := 2) rfl)))) ?_
          refine zp_const (pc := 51) hx hb (zd_X11_windBy (51, .iconst 0, 1, 0, []) (List.mem_of_getElem? (i := 26) rfl)) rfl rfl ?_
          refine zp_load (pc := 52) hx hb (zd_X11_windBy (52, .aload_n 2, 1, 0, []) (List.mem_of_getElem? (i := 27) rfl)) rfl (j := 0) rfl ?_
          refine zp_call (pc := 53) (how := 0) (idx := 316) (mi := 88) (S := []) hx hb hEξ hwξ heffξ hrmξ (zX_kep3 hWξ A Y F (zf_mot1 V).2) rfl (j := 33) rfl rfl (by decide +kernel) (zd_X11_windBy (53, .invokevirtual 316, 3, 0, []) (List.mem_of_getElem? (i := 28) rfl)) [(A 3 : Int), 0, (A 2 : Int)] rfl ⟨zp_o2 (zM_P hMa540ξ (hYbξ _ (List.mem_of_getElem? (i := 3) rfl))), zp_o0 (by omega) (by omega) (by omega) (by omega), zp_o2 (zM_P hMa540ξ (hYbξ _ (List.mem_of_getElem? (i := 2) rfl))), trivial⟩ (Nat.le_of_ble_eq_true rfl) ⟨⟨Ma540, hMa540ξ, hVa540ξ, trivial⟩, rfl, hYF0ξ, rfl⟩ (fun al halξ rna542ξ Pa542 Ga542 hexta542ξ hfra542ξ hoka542ξ hcsa542ξ hpsia542ξ => ?_)
          obtain rfl := List.mem_singleton.mp halξ
          obtain ⟨hPea542ξ, Ma542, hMa542ξ, hVa542ξ, hSba542ξ⟩ := hpsia542ξ
          subst hPea542ξ
          clear hexta542ξ hfra542ξ hcsa542ξ hoka542ξ
          have hVa542ξ : ∀ o k, zNc o → Ma542 o k = (zf_kep3 (zf_mot1 V).2 0).2 o k := hVa542ξ
          refine zp_load (pc := 56) hx hb (zd_X11_windBy (56, .aload_n 0, 1, 0, []) (List.mem_of_getElem? (i := 29) rfl)) rfl (j := 1) rfl ?_
          refine zp_getf (n := (A 4 : Int)) (pc := 57) hx hb hEξ hwξ (zd_X11_windBy (57, .getfield 30, 3, 0, []) (List.mem_of_getElem? (i := 30) rfl)) (j := 53) rfl rfl rfl (zM_P hMa542ξ (hYbξ _ (List.mem_of_getElem? (i := 0) rfl))) ((zM_G hMa542ξ (hYbξ _ (List.mem_of_getElem? (i := 0) rfl)) 3).trans (zM_F hMa542ξ (hFbξ _ (List.mem_of_getElem? (i := 3) rfl)))) ?_
          refine zp_load (pc := 60) hx hb (zd_X11_windBy (60, .aload_n 0, 1, 0, []) (List.mem_of_getElem? (i := 31) rfl)) rfl (j := 1) rfl ?_
          refine zp_getf (n := (A 1 : Int)) (pc := 61) hx hb hEξ hwξ (zd_X11_windBy (61, .getfield 10, 3, 0, []) (List.mem_of_getElem? (i := 32) rfl)) (j := 50) rfl rfl rfl (zM_P hMa542ξ (hYbξ _ (List.mem_of_getElem? (i := 0) rfl))) ((zM_G hMa542ξ (hYbξ _ (List.mem_of_getElem? (i := 0) rfl)) 0).trans (zM_F hMa542ξ (hFbξ _ (List.mem_of_getElem? (i := 0) rfl)))) ?_
          refine zp_load (pc := 64) hx hb (zd_X11_windBy (64, .aload_n 2, 1, 0, []) (List.mem_of_getElem? (i := 33) rfl)) rfl (j := 0) rfl ?_
          refine zp_load (pc := 65) hx hb (zd_X11_windBy (65, .iload_n 1, 1, 0, []) (List.mem_of_getElem? (i := 34) rfl)) rfl (j := 2) rfl ?_
          refine zp_call (pc := 66) (how := 0) (idx := 295) (mi := 90) (S := []) hx hb hEξ hwξ heffξ hrmξ (zX_abt2 hWξ A Y F (zf_kep3 (zf_mot1 V).2 0).2 Lwξ) rfl (j := 34) rfl rfl (by decide +kernel) (zd_X11_windBy (66, .invokevirtual 295, 3, 0, []) (List.mem_of_getElem? (i := 35) rfl)) [(A 4 : Int), (A 1 : Int), (A 2 : Int), p1ξ] rfl ⟨zp_o2 (zM_P hMa542ξ (hYbξ _ (List.mem_of_getElem? (i := 4) rfl))), zp_o2 (zM_P hMa542ξ (hYbξ _ (List.mem_of_getElem? (i := 1) rfl))), zp_o2 (zM_P hMa542ξ (hYbξ _ (List.mem_of_getElem? (i := 2) rfl))), zp_o0 (by omega) (by omega) (by omega) (by omega), trivial⟩ (Nat.le_of_ble_eq_true rfl) ⟨⟨Ma542, hMa542ξ, hVa542ξ, trivial⟩, rfl, hYF0ξ, rfl, rfl, (zLF_f hlwξ (fun o k h8ξ => ((zf_kep3_f (zLn h8ξ (by decide))).trans (zf_mot1_f (zLn h8ξ (by decide))))))⟩ (fun al halξ rnab543ξ Pab543 Gab543 hextab543ξ hfrab543ξ hokab543ξ hcsab543ξ hpsiab543ξ => ?_)
          obtain rfl := List.mem_singleton.mp halξ
          obtain ⟨hPeab543ξ, Mab543, hMab543ξ, hVab543ξ, hAbab543ξ⟩ := hpsiab543ξ
          have hAbab543ξ : zAb A Y F (zf_kep3 (zf_mot1 V).2 0).2 Lwξ (zRc (zf_kep3 (zf_mot1 V).2 0).2 2 50) p1ξ Mab543 := hAbab543ξ
          subst hPeab543ξ
          clear hextab543ξ hfrab543ξ hokab543ξ hcsab543ξ
          refine zp_load (pc := 69) hx hb (zd_X11_windBy (69, .aload_n 2, 1, 0, []) (List.mem_of_getElem? (i := 36) rfl)) rfl (j := 0) rfl ?_
          refine zp_load (pc := 70) hx hb (zd_X11_windBy (70, .iload_n 1, 1, 0, []) (List.mem_of_getElem? (i := 37) rfl)) rfl (j := 2) rfl ?_
          refine zp_load (pc := 71) hx hb (zd_X11_windBy (71, .aload_n 0, 1, 0, []) (List.mem_of_getElem? (i := 38) rfl)) rfl (j := 1) rfl ?_
          refine zp_getf (n := (A 4 : Int)) (pc := 72) hx hb hEξ hwξ (zd_X11_windBy (72, .getfield 30, 3, 0, []) (List.mem_of_getElem? (i := 39) rfl)) (j := 53) rfl rfl rfl (zM_P hMab543ξ (hYbξ _ (List.mem_of_getElem? (i := 0) rfl))) ((zM_G hMab543ξ (hYbξ _ (List.mem_of_getElem? (i := 0) rfl)) 3).trans (zM_F hMab543ξ (hFbξ _ (List.mem_of_getElem? (i := 3) rfl)))) ?_
          have hlr544ξ := zg_lawM hMab543ξ hYF0ξ hVab543ξ hAbab543ξ (pw := (-1)) (hrξ := (-1)) (p := (-1)) (o := (-1)) (l := (-1)) (by omega) (by omega) (by omega) (by omega) (by omega) (by rfl) (by rfl)
          have habr544ξ := (hAbab543ξ).1.1
          refine zp_call (pc := 75) (how := 0) (idx := 299) (mi := 92) (S := [(0, p1ξ), (2, (A 2 : Int))]) hx hb hEξ hwξ heffξ hrmξ (zX_we_ hWξ (A 66) (fun j => Mab543 66 (2000 + j)) (zg_ew (zRc (zf_kep3 (zf_mot1 V).2 0).2 2 50) zd_S0 p1ξ (-1) (-1) (-1)) Lwξ) rfl (j := 35) rfl rfl (by decide +kernel) (zd_X11_windBy (75, .invokevirtual 299, 3, 0, []) (List.mem_of_getElem? (i := 40) rfl)) [(A 4 : Int)] rfl ⟨zp_o2 (zM_P hMab543ξ (hYbξ _ (List.mem_of_getElem? (i := 4) rfl))), trivial⟩ (Nat.le_of_ble_eq_true rfl) ⟨hlr544ξ, (show 0 ≤ Mab543 66 (2000 + 0) by omega), (show Mab543 66 (2000 + 0) ≤ 1000 by omega)⟩ (fun al halξ rnr544ξ Pr544 Gr544 hextr544ξ hfrr544ξ hokr544ξ hcsr544ξ hpsir544ξ => ?_)
          obtain rfl := List.mem_singleton.mp halξ
          have hrr544ξ := zp_int (hokr544ξ _ rfl).1
          obtain ⟨hPer544ξ, hWnr544ξ, htr544ξ⟩ := hpsir544ξ
          obtain ⟨Mr544, hMr544ξ, hMkr544ξ, hM6r544ξ⟩ := zM_rul hMab543ξ hYF0ξ hfrr544ξ hextr544ξ
          subst hPer544ξ
          have hVr544ξ : ∀ o k, zNc o → Mr544 o k = (zf_kep3 (zf_mot1 V).2 0).2 o k := fun o k hkξ => (hMkr544ξ o k (fun e => hkξ (by rw [e]; decide)) (fun e => hkξ (by rw [e]; decide))).trans (hVab543ξ o k hkξ)
          have hAbr544ξ := zAb_n (hAbab543ξ) (fun j => (hM6r544ξ (2000 + j)).trans (hWnr544ξ j)) hlr544ξ.1.2.2.2.2.1 (hMkr544ξ 4 2 (by decide) (by decide))
          clear hextr544ξ hfrr544ξ hokr544ξ hcsr544ξ hlr544ξ
          have htr544ξ : rnr544ξ = (zy_we (zg_ew (zRc (zf_kep3 (zf_mot1 V).2 0).2 2 50) zd_S0 p1ξ (-1) (-1) (-1)) Lwξ p1ξ) := by
            have h9ξ : rnr544ξ = zy_we (zg_ew (zRc (zf_kep3 (zf_mot1 V).2 0).2 2 50) zd_S0 p1ξ (-1) (-1) (-1)) Lwξ (Mab543 66 (2000 + 0)) := htr544ξ
            rw [habr544ξ] at h9ξ
            exact h9ξ
          have hbr544ξ : 0 ≤ (zy_we (zg_ew (zRc (zf_kep3 (zf_mot1 V).2 0).2 2 50) zd_S0 p1ξ (-1) (-1) (-1)) Lwξ p1ξ) ∧ (zy_we (zg_ew (zRc (zf_kep3 (zf_mot1 V).2 0).2 2 50) zd_S0 p1ξ (-1) (-1) (-1)) Lwξ p1ξ) ≤ 999 := zy_web (by omega) (by omega)
          have htr544ξ := (Eq.symm htr544ξ)
          subst htr544ξ
          refine zp_call (pc := 78) (how := 0) (idx := 320) (mi := 99) (S := []) hx hb hEξ hwξ heffξ hrmξ (zX_wby2 hWξ A Y F (zf_kep3 (zf_mot1 V).2 0).2) rfl (j := 36) rfl rfl (by decide +kernel) (zd_X11_windBy (78, .invokevirtual 320, 3, 0, []) (List.mem_of_getElem? (i := 41) rfl)) [(A 2 : Int), p1ξ, (zy_we (zg_ew (zRc (zf_kep3 (zf_mot1 V).2 0).2 2 50) zd_S0 p1ξ (-1) (-1) (-1)) Lwξ p1ξ)] rfl ⟨zp_o2 (zM_P hMr544ξ (hYbξ _ (List.mem_of_getElem? (i := 2) rfl))), zp_o0 (by omega) (by omega) (by omega) (by omega), zp_o0 (by omega) (by omega) (by omega) (by omega), trivial⟩ (Nat.le_of_ble_eq_true rfl) ⟨⟨Mr544, hMr544ξ, hVr544ξ, trivial⟩, rfl, hYF0ξ, ((show 0 ≤ (zf_kep3 (zf_mot1 V).2 0).2 2 3 ∧ (zf_kep3 (zf_mot1 V).2 0).2 2 3 ≤ 9999 by rw [(Eq.trans rfl (Eq.trans rfl (Eq.trans rfl (Eq.trans (zf_kep3_f (by decide)) (Eq.trans rfl (zf_mot1_f (by decide)))))))]; omega)).1, ((show 0 ≤ (zf_kep3 (zf_mot1 V).2 0).2 2 3 ∧ (zf_kep3 (zf_mot1 V).2 0).2 2 3 ≤ 9999 by rw [(Eq.trans rfl (Eq.trans rfl (Eq.trans rfl (Eq.trans (zf_kep3_f (by decide)) (Eq.trans rfl (zf_mot1_f (by decide)))))))]; omega)).2, (show 0 ≤ (zy_we (zg_ew (zRc (zf_kep3 (zf_mot1 V).2 0).2 2 50) zd_S0 p1ξ (-1) (-1) (-1)) Lwξ p1ξ) by omega), (show (zy_we (zg_ew (zRc (zf_kep3 (zf_mot1 V).2 0).2 2 50) zd_S0 p1ξ (-1) (-1) (-1)) Lwξ p1ξ) ≤ 999 by omega)⟩ (fun al halξ rna545ξ Pa545 Ga545 hexta545ξ hfra545ξ hoka545ξ hcsa545ξ hpsia545ξ => ?_)
          obtain rfl := List.mem_singleton.mp halξ
          obtain ⟨hPea545ξ, Ma545, hMa545ξ, hVa545ξ, hSba545ξ⟩ := hpsia545ξ
          subst hPea545ξ
          clear hexta545ξ hfra545ξ hcsa545ξ hoka545ξ
          have hVa545ξ : ∀ o k, zNc o → Ma545 o k = (zf_wby2 (zf_kep3 (zf_mot1 V).2 0).2 p1ξ (zy_we (zg_ew (zRc (zf_kep3 (zf_mot1 V).2 0).2 2 50) zd_S0 p1ξ (-1) (-1) (-1)) Lwξ p1ξ)).2 o k := hVa545ξ
          refine zp_load (pc := 81) hx hb (zd_X11_windBy (81, .aload_n 2, 1, 0, []) (List.mem_of_getElem? (i := 42) rfl)) rfl (j := 0) rfl ?_
          refine zp_getf (n := ((zf_wby2 (zf_kep3 (zf_mot1 V).2 0).2 p1ξ (zy_we (zg_ew (zRc (zf_kep3 (zf_mot1 V).2 0).2 2 50) zd_S0 p1ξ (-1) (-1) (-1)) Lwξ p1ξ)).2 2 3)) (pc := 82) hx hb hEξ hwξ (zd_X11_windBy (82, .getfield 283, 3, 0, []) (List.mem_of_getElem? (i := 43) rfl)) (j := 5) rfl rfl rfl (zM_P hMa545ξ (hYbξ _ (List.mem_of_getElem? (i := 2) rfl))) ((zM_G hMa545ξ (hYbξ _ (List.mem_of_getElem? (i := 2) rfl)) 3).trans (hVa545ξ 2 3 (by decide))) ?_
          refine zp_kn (k := 3) (a := (A 2)) hwξ (show zp_fd 2 3 = some (2, 0, 0, (-2147483648), 2147483647) from rfl) rfl (zM_P hMa545ξ (hYbξ _ (List.mem_of_getElem? (i := 2) rfl))) (fun hf546ξ => ?_)
          have hf546bξ := zp_int hf546ξ
          rw [((zM_G hMa545ξ (hYbξ _ (List.mem_of_getElem? (i := 2) rfl)) 3).trans (hVa545ξ 2 3 (by decide)))] at hf546bξ
          clear hf546ξ
          refine zp_iret (pc := 85) (n := ((zf_wby2 (zf_kep3 (zf_mot1 V).2 0).2 p1ξ (zy_we (zg_ew (zRc (zf_kep3 (zf_mot1 V).2 0).2 2 50) zd_S0 p1ξ (-1) (-1) (-1)) Lwξ p1ξ)).2 2 3)) hx hb hEξ hQξ hU5ξ rfl (by decide) (zd_X11_windBy (85, .ireturn, 1, 0, []) (List.mem_of_getElem? (i := 44) rfl)) (j := 0) rfl (zp_o0 (by omega) (by omega) (by omega) (by omega)) ?_
          rw [hpsξ]
          refine ⟨rfl, ?_⟩
          have hffξ : zf_wnbc V Lwξ p1ξ = (((zf_wby2 (zf_kep3 (zf_mot1 V).2 0).2 p1ξ (zy_we (zg_ew (zRc (zf_kep3 (zf_mot1 V).2 0).2 2 50) zd_S0 p1ξ (-1) (-1) (-1)) Lwξ p1ξ)).2 2 3), (zf_wby2 (zf_kep3 (zf_mot1 V).2 0).2 p1ξ (zy_we (zg_ew (zRc (zf_kep3 (zf_mot1 V).2 0).2 2 50) zd_S0 p1ξ (-1) (-1) (-1)) Lwξ p1ξ)).2) := by
            unfold zf_wnbc
            rw [if_pos ((Iff.mp htn532ξ) (by omega)), if_neg hc537ξ, if_neg hc539ξ, if_pos hc541ξ]
          show zMVc A Y F (zf_wnbc V Lwξ p1ξ).2 u.1 Ga545 ∧ ((zf_wby2 (zf_kep3 (zf_mot1 V).2 0).2 p1ξ (zy_we (zg_ew (zRc (zf_kep3 (zf_mot1 V).2 0).2 2 50) zd_S0 p1ξ (-1) (-1) (-1)) Lwξ p1ξ)).2 2 3) = (zf_wnbc V Lwξ p1ξ).1
          rw [hffξ]
          exact ⟨⟨Ma545, hMa545ξ, hVa545ξ, trivial⟩, rfl⟩
        · refine zp_const (pc := 44) hx hb (zd_X11_windBy (44, .bipush (-3), 2, 0, []) (List.mem_of_getElem? (i := 22) rfl)) rfl rfl ?_
          refine zp_iret (pc := 46) (n := (-3)) hx hb hEξ hQξ hU5ξ rfl (by decide) (zd_X11_windBy (46, .ireturn, 1, 0, []) (List.mem_of_getElem? (i := 23) rfl)) (j := 0) rfl (zp_o0 (by omega) (by omega) (by omega) (by omega)) ?_
          rw [hpsξ]
          refine ⟨rfl, ?_⟩
          have hffξ : zf_wnbc V Lwξ p1ξ = ((-3), (zf_mot1 V).2) := by
            unfold zf_wnbc
            rw [if_pos ((Iff.mp htn532ξ) (by omega)), if_neg hc537ξ, if_neg hc539ξ, if_neg hc541ξ]
          show zMVc A Y F (zf_wnbc V Lwξ p1ξ).2 u.1 Ga540 ∧ (-3) = (zf_wnbc V Lwξ p1ξ).1
          rw [hffξ]
          exact ⟨⟨Ma540, hMa540ξ, hVa540ξ, trivial⟩, rfl⟩
  · have hbf535ξ : ¬ (0 ≤ p1ξ ∧ p1ξ ≤ 12) := fun h9ξ => absurd ((Iff.mpr htn532ξ) h9ξ) (by omega)
    refine zp_const (pc := 15) hx hb (zd_X11_windBy (15, .iconst (-1), 1, 0, []) (List.mem_of_getElem? (i := 7) rfl)) rfl rfl ?_
    refine zp_iret (pc := 16) (n := (-1)) hx hb hEξ hQξ hU5ξ rfl (by decide) (zd_X11_windBy (16, .ireturn, 1, 0, []) (List.mem_of_getElem? (i := 8) rfl)) (j := 0) rfl (zp_o0 (by omega) (by omega) (by omega) (by omega)) ?_
    rw [hpsξ]
    refine ⟨rfl, ?_⟩
    have hffξ : zf_wnbc V Lwξ p1ξ = ((-1), V) := by
      unfold zf_wnbc
      rw [if_neg (fun h9ξ => absurd ((Iff.mpr htn532ξ) h9ξ) (by omega))]
    show zMVc A Y F (zf_wnbc V Lwξ p1ξ).2 u.1 (zp_n u.2.1) ∧ (-1) = (zf_wnbc V Lwξ p1ξ).1
    rw [hffξ]
    exact ⟨⟨M, hMξ, hVξ, trivial⟩, rfl⟩
theorem zf_wnbc_f {V : Nat → Nat → Int} {Lwξ : List yK} {p1ξ : Int} {o k : Nat} (h9ξ : o ∉ ([2, 3, 62, 63] : List Nat)) : (zf_wnbc V Lwξ p1ξ).2 o k = V o k := by
  unfold zf_wnbc
  by_cases hd2ξ : 0 ≤ p1ξ ∧ p1ξ ≤ 12
  · rw [if_pos hd2ξ]
    by_cases hd4ξ : ¬ (V 2 5) = (-1)
    · rw [if_pos hd4ξ]
    · rw [if_neg hd4ξ]
      by_cases hd6ξ : ¬ (V 2 4) = 0
      · rw [if_pos hd6ξ]
      · rw [if_neg hd6ξ]
        by_cases hd8ξ : p1ξ ≤ ((zf_mot1 V).1)
        · rw [if_pos hd8ξ]
          show (zf_wby2 (zf_kep3 (zf_mot1 V).2 0).2 p1ξ (zy_we (zg_ew (zRc (zf_kep3 (zf_mot1 V).2 0).2 2 50) zd_S0 p1ξ (-1) (-1) (-1)) Lwξ p1ξ)).2 o k = V o k
          exact ((zf_wby2_f (zc_sub h9ξ (by decide))).trans ((zf_kep3_f (zc_sub h9ξ (by decide))).trans (zf_mot1_f (zc_sub h9ξ (by decide)))))
        · rw [if_neg hd8ξ]
          show (zf_mot1 V).2 o k = V o k
          exact (zf_mot1_f (zc_sub h9ξ (by decide)))
  · rw [if_neg hd2ξ]
noncomputable def zf_windc (V : Nat → Nat → Int) (Lwξ : List yK) (p1ξ : Int) : Int × (Nat → Nat → Int) := (((zf_stc (zf_wnbc V Lwξ p1ξ).2 ((zf_wnbc V Lwξ p1ξ).1)).1), (zf_stc (zf_wnbc V Lwξ p1ξ).2 ((zf_wnbc V Lwξ p1ξ).1)).2)
noncomputable def zK_windc : zk_K := (zt_mn 120, prog_1_method_22_code, 2, (Option.some Jvm.ClassFile.FieldType.int), 1, 11, [(2, 12, 0, 0), (0, 0, (-2147483648), 2147483647)], [(some (0, 0, (-2147483648), 2147483647), [])], zUC, (5, 300, 0, 0))
noncomputable def zφ_windc (A : Nat → Nat) (Y : List (Nat × Nat)) (F : List (Nat × Nat × Nat)) (V : Nat → Nat → Int) (Lwξ : List yK) : (Nat → Option Nat) → (Nat → Nat → Int) → List Int → Prop := fun P G ps => zMVc A Y F V P G ∧ ps.getD 0 0 = (A 0 : Int) ∧ zMc Y F ∧ 0 ≤ V 2 3 ∧ V 2 3 ≤ 9999 ∧ (0 ≤ V 2 6 ∧ V 2 6 ≤ 9999) ∧ zLF A Y F V Lwξ
noncomputable def zψ_windc (A : Nat → Nat) (Y : List (Nat × Nat)) (F : List (Nat × Nat × Nat)) (V : Nat → Nat → Int) (Lwξ : List yK) : (Nat → Option Nat) → (Nat → Nat → Int) → List Int → (Nat → Option Nat) → (Nat → Nat → Int) → Int → Prop := fun P G ps P' G' rn => P' = P ∧ zMVc A Y F (zf_windc V Lwξ (ps.getD 1 0)).2 P' G' ∧ rn = (zf_windc V Lwξ (ps.getD 1 0)).1
theorem zX_windc {l : Launch} {w : zk_W} (hWξ : zh_W w) (A : Nat → Nat) (Y : List (Nat × Nat)) (F : List (Nat × Nat × Nat)) (V : Nat → Nat → Int) (Lwξ : List yK) : zk_metX l w zt_dv zt_TB zK_windc (zp_A (zφ_windc A Y F V Lwξ)) (zp_B (zψ_windc A Y F V Lwξ)) ∧ zk_cok w zt_TB zK_windc := by
  refine zp_methX (cn := "WoundTown") zp_lkallW hWξ (pl := 1062) rfl (by decide +kernel) (fun p e R s m args below meth c Q u hx hb hEξ hQξ hU5ξ heffξ hnLξ hokξ hφ => ?_)
  have hwξ := hWξ.1
  obtain ⟨p0ξ, p1ξ, hpsξ, tk0, tk1⟩ := zp_ps2 hokξ
  have hrmξ : zk_Kr (zk_ev (zt_types, zp_lkW, zt_dv, [], [], zp_lcW, zK_windc)) = zk_Kr zK_windc := rfl
  rw [hpsξ] at hφ ⊢
  have hφ : zMVc A Y F V u.1 (zp_n u.2.1) ∧ p0ξ = (A 0 : Int) ∧ zMc Y F ∧ 0 ≤ V 2 3 ∧ V 2 3 ≤ 9999 ∧ (0 ≤ V 2 6 ∧ V 2 6 ≤ 9999) ∧ zLF A Y F V Lwξ := hφ
  obtain ⟨⟨M, hMξ, hVξ, hSbξ⟩, rfl, hYFξ, hlf0ξ, hlf1ξ, ⟨hdy0ξ, hdy1ξ⟩, hlwξ⟩ := hφ
  have hYF0ξ := hYFξ
  obtain ⟨hYbξ, hFbξ, hFxξ, -⟩ := hYFξ
  have hi1ξ := zp_int tk1
  show zp_J p l e R s m args below meth c Q w u [] 0 [(0, 2, (A 0 : Int)), (1, 0, p1ξ)] [] u.1 (zp_n u.2.1)
  refine zp_load (pc := 0) hx hb (zd_X11_wind (0, .aload_n 0, 1, 0, []) (List.mem_of_getElem? (i := 0) rfl)) rfl (j := 0) rfl ?_
  refine zp_load (pc := 1) hx hb (zd_X11_wind (1, .aload_n 0, 1, 0, []) (List.mem_of_getElem? (i := 1) rfl)) rfl (j := 0) rfl ?_
  refine zp_load (pc := 2) hx hb (zd_X11_wind (2, .iload_n 1, 1, 0, []) (List.mem_of_getElem? (i := 2) rfl)) rfl (j := 1) rfl ?_
  refine zp_call (pc := 3) (how := 0) (idx := 267) (mi := 85) (S := [(2, (A 0 : Int))]) hx hb hEξ hwξ heffξ hrmξ (zX_wnbc hWξ A Y F V Lwξ) rfl (j := 30) rfl rfl (by decide +kernel) (zd_X11_wind (3, .invokevirtual 267, 3, 0, []) (List.mem_of_getElem? (i := 3) rfl)) [(A 0 : Int), p1ξ] rfl ⟨zp_o2 (zM_P hMξ (hYbξ _ (List.mem_of_getElem? (i := 0) rfl))), zp_o0 (by omega) (by omega) (by omega) (by omega), trivial⟩ (Nat.le_of_ble_eq_true rfl) ⟨⟨M, hMξ, hVξ, trivial⟩, rfl, hYF0ξ, hlf0ξ, hlf1ξ, ⟨hdy0ξ, hdy1ξ⟩, hlwξ⟩ (fun al halξ rna547ξ Pa547 Ga547 hexta547ξ hfra547ξ hoka547ξ hcsa547ξ hpsia547ξ => ?_)
  obtain rfl := List.mem_singleton.mp halξ
  have hra547ξ := zp_int (hoka547ξ _ rfl).1
  obtain ⟨hPea547ξ, ⟨Ma547, hMa547ξ, hVa547ξ, hSba547ξ⟩, hta547ξ⟩ := hpsia547ξ
  subst hPea547ξ
  clear hexta547ξ hfra547ξ hcsa547ξ hoka547ξ
  have hVa547ξ : ∀ o k, zNc o → Ma547 o k = (zf_wnbc V Lwξ p1ξ).2 o k := hVa547ξ
  have hta547ξ : rna547ξ = ((zf_wnbc V Lwξ p1ξ).1) := hta547ξ
  have hta547ξ := (Eq.symm hta547ξ)
  subst hta547ξ
  refine zp_call (pc := 6) (how := 0) (idx := 305) (mi := 121) (S := []) hx hb hEξ hwξ heffξ hrmξ (zX_stc hWξ A Y F (zf_wnbc V Lwξ p1ξ).2) rfl (j := 43) rfl rfl (by decide +kernel) (zd_X11_wind (6, .invokevirtual 305, 3, 0, []) (List.mem_of_getElem? (i := 4) rfl)) [(A 0 : Int), ((zf_wnbc V Lwξ p1ξ).1)] rfl ⟨zp_o2 (zM_P hMa547ξ (hYbξ _ (List.mem_of_getElem? (i := 0) rfl))), zp_o0 (by omega) (by omega) (by omega) (by omega), trivial⟩ (Nat.le_of_ble_eq_true rfl) ⟨⟨Ma547, hMa547ξ, hVa547ξ, trivial⟩, rfl, hYF0ξ⟩ (fun al halξ rna548ξ Pa548 Ga548 hexta548ξ hfra548ξ hoka548ξ hcsa548ξ hpsia548ξ => ?_)
  obtain rfl := List.mem_singleton.mp halξ
  have hra548ξ := zp_int (hoka548ξ _ rfl).1
  obtain ⟨hPea548ξ, ⟨Ma548, hMa548ξ, hVa548ξ, hSba548ξ⟩, hta548ξ⟩ := hpsia548ξ
  subst hPea548ξ
  clear hexta548ξ hfra548ξ hcsa548ξ hoka548ξ
  have hVa548ξ : ∀ o k, zNc o → Ma548 o k = (zf_stc (zf_wnbc V Lwξ p1ξ).2 ((zf_wnbc V Lwξ p1ξ).1)).2 o k := hVa548ξ
  have hta548ξ : rna548ξ = ((zf_stc (zf_wnbc V Lwξ p1ξ).2 ((zf_wnbc V Lwξ p1ξ).1)).1) := hta548ξ
  have hta548ξ := (Eq.symm hta548ξ)
  subst hta548ξ
  refine zp_iret (pc := 9) (n := ((zf_stc (zf_wnbc V Lwξ p1ξ).2 ((zf_wnbc V Lwξ p1ξ).1)).1)) hx hb hEξ hQξ hU5ξ rfl (by decide) (zd_X11_wind (9, .ireturn, 1, 0, []) (List.mem_of_getElem? (i := 5) rfl)) (j := 0) rfl (zp_o0 (by omega) (by omega) (by omega) (by omega)) ?_
  rw [hpsξ]
  refine ⟨rfl, ?_⟩
  have hffξ : zf_windc V Lwξ p1ξ = (((zf_stc (zf_wnbc V Lwξ p1ξ).2 ((zf_wnbc V Lwξ p1ξ).1)).1), (zf_stc (zf_wnbc V Lwξ p1ξ).2 ((zf_wnbc V Lwξ p1ξ).1)).2) := rfl
  show zMVc A Y F (zf_windc V Lwξ p1ξ).2 u.1 Ga548 ∧ ((zf_stc (zf_wnbc V Lwξ p1ξ).2 ((zf_wnbc V Lwξ p1ξ).1)).1) = (zf_windc V Lwξ p1ξ).1
  rw [hffξ]
  exact ⟨⟨Ma548, hMa548ξ, hVa548ξ, trivial⟩, rfl⟩
theorem zy_bab {en : Int → Int → Int} {M : List yK} : 0 ≤ zy_ba en M ∧ zy_ba en M ≤ 1 := by
  unfold zy_ba
  split <;> omega
noncomputable def zf_keybc (V : Nat → Nat → Int) (Lwξ : List yK) (p1ξ : Int) (p2ξ : Int) : Int × (Nat → Nat → Int) := if 1 ≤ p2ξ ∧ p2ξ ≤ 9 then if 0 ≤ p1ξ ∧ p1ξ < (V 1 1) ∧ p1ξ < 6 then if ((V 51 (2000 + p1ξ.toNat)) + p2ξ) ≤ 9 then if (zy_ba (zg_ew (yu (zRc V 2 50) (3 * p1ξ.toNat + 13) ((V 51 (2000 + p1ξ.toNat)) + p2ξ)) zd_S0 (max 0 (V 2 5)) (-1) (-1) p1ξ) Lwξ) = 0 then (((V 51 (2000 + p1ξ.toNat)) + p2ξ), (zp_set (zf_kep3 V 1).2 51 (2000 + p1ξ.toNat) ((V 51 (2000 + p1ξ.toNat)) + p2ξ))) else ((-3), V) else ((-3), V) else ((-2), V) else ((-1), V)
noncomputable def zK_keybc : zk_K := (zt_mn 101, prog_1_method_25_code, 5, (Option.some Jvm.ClassFile.FieldType.int), 1, 11, [(2, 12, 0, 0), (0, 0, (-2147483648), 2147483647), (0, 0, (-2147483648), 2147483647)], [(some (0, 0, (-2147483648), 2147483647), [])], zUC, (4, 240, 0, 0))
noncomputable def zφ_keybc (A : Nat → Nat) (Y : List (Nat × Nat)) (F : List (Nat × Nat × Nat)) (V : Nat → Nat → Int) (Lwξ : List yK) : (Nat → Option Nat) → (Nat → Nat → Int) → List Int → Prop := fun P G ps => zMVc A Y F V P G ∧ ps.getD 0 0 = (A 0 : Int) ∧ zMc Y F ∧ zLF A Y F V Lwξ ∧ -2147483648 ≤ V 2 5 ∧ V 2 5 ≤ 12
noncomputable def zψ_keybc (A : Nat → Nat) (Y : List (Nat × Nat)) (F : List (Nat × Nat × Nat)) (V : Nat → Nat → Int) (Lwξ : List yK) : (Nat → Option Nat) → (Nat → Nat → Int) → List Int → (Nat → Option Nat) → (Nat → Nat → Int) → Int → Prop := fun P G ps P' G' rn => P' = P ∧ zMVc A Y F (zf_keybc V Lwξ (ps.getD 1 0) (ps.getD 2 0)).2 P' G' ∧ rn = (zf_keybc V Lwξ (ps.getD 1 0) (ps.getD 2 0)).1
theorem zX_keybc {l : Launch} {w : zk_W} (hWξ : zh_W w) (A : Nat → Nat) (Y : List (Nat × Nat)) (F : List (Nat × Nat × Nat)) (V : Nat → Nat → Int) (Lwξ : List yK) : zk_metX l w zt_dv zt_TB zK_keybc (zp_A (zφ_keybc A Y F V Lwξ)) (zp_B (zψ_keybc A Y F V Lwξ)) ∧ zk_cok w zt_TB zK_keybc := by
  refine zp_methX (cn := "WoundTown") zp_lkallW hWξ (pl := 980) rfl (by decide +kernel) (fun p e R s m args below meth c Q u hx hb hEξ hQξ hU5ξ heffξ hnLξ hokξ hφ => ?_)
  have hwξ := hWξ.1
  obtain ⟨p0ξ, p1ξ, p2ξ, hpsξ, tk0, tk1, tk2⟩ := zp_ps3 hokξ
  have hrmξ : zk_Kr (zk_ev (zt_types, zp_lkW, zt_dv, [], [], zp_lcW, zK_keybc)) = zk_Kr zK_keybc := rfl
  rw [hpsξ] at hφ ⊢
  have hφ : zMVc A Y F V u.1 (zp_n u.2.1) ∧ p0ξ = (A 0 : Int) ∧ zMc Y F ∧ zLF A Y F V Lwξ ∧ -2147483648 ≤ V 2 5 ∧ V 2 5 ≤ 12 := hφ
  obtain ⟨⟨M, hMξ, hVξ, hSbξ⟩, rfl, hYFξ, hlwξ, htr0ξ, htr1ξ⟩ := hφ
  have hYF0ξ := hYFξ
  obtain ⟨hYbξ, hFbξ, hFxξ, -⟩ := hYFξ
  have hi1ξ := zp_int tk1
  have hi2ξ := zp_int tk2
  show zp_J p l e R s m args below meth c Q w u [] 0 [(0, 2, (A 0 : Int)), (1, 0, p1ξ), (2, 0, p2ξ)] [] u.1 (zp_n u.2.1)
  refine zp_load (pc := 0) hx hb (zd_X11_keyBy (0, .aload_n 0, 1, 0, []) (List.mem_of_getElem? (i := 0) rfl)) rfl (j := 0) rfl ?_
  refine zp_getf (n := (A 1 : Int)) (pc := 1) hx hb hEξ hwξ (zd_X11_keyBy (1, .getfield 10, 3, 0, []) (List.mem_of_getElem? (i := 1) rfl)) (j := 50) rfl rfl rfl (zM_P hMξ (hYbξ _ (List.mem_of_getElem? (i := 0) rfl))) ((zM_G hMξ (hYbξ _ (List.mem_of_getElem? (i := 0) rfl)) 0).trans (zM_F hMξ (hFbξ _ (List.mem_of_getElem? (i := 0) rfl)))) ?_
  refine zp_getf (n := (A 2 : Int)) (pc := 4) hx hb hEξ hwξ (zd_X11_keyBy (4, .getfield 135, 3, 0, []) (List.mem_of_getElem? (i := 2) rfl)) (j := 24) rfl rfl rfl (zM_P hMξ (hYbξ _ (List.mem_of_getElem? (i := 1) rfl))) ((zM_G hMξ (hYbξ _ (List.mem_of_getElem? (i := 1) rfl)) 18).trans (zM_F hMξ (hFbξ _ (List.mem_of_getElem? (i := 24) rfl)))) ?_
  refine zp_store (L' := [(3, 2, (A 2 : Int)), (0, 2, (A 0 : Int)), (1, 0, p1ξ), (2, 0, p2ξ)]) (pc := 7) hx hb hnLξ (zd_X11_keyBy (7, .astore_n 3, 1, 0, []) (List.mem_of_getElem? (i := 3) rfl)) rfl rfl rfl ?_
  refine zp_load (pc := 8) hx hb (zd_X11_keyBy (8, .iload_n 2, 1, 0, []) (List.mem_of_getElem? (i := 4) rfl)) rfl (j := 3) rfl ?_
  refine zp_const (pc := 9) hx hb (zd_X11_keyBy (9, .iconst 1, 1, 0, []) (List.mem_of_getElem? (i := 5) rfl)) rfl rfl ?_
  refine zp_const (pc := 10) hx hb (zd_X11_keyBy (10, .bipush 9, 2, 0, []) (List.mem_of_getElem? (i := 6) rfl)) rfl rfl ?_
  refine zp_call (pc := 12) (how := 1) (idx := 107) (mi := 15) (S := []) hx hb hEξ hwξ heffξ hrmξ (zX_iwn hWξ) rfl (j := 10) rfl rfl (by decide +kernel) (zd_X11_keyBy (12, .invokestatic 107, 3, 0, []) (List.mem_of_getElem? (i := 7) rfl)) [p2ξ, 1, 9] rfl ⟨zp_o0 (by omega) (by omega) (by omega) (by omega), zp_o0 (by omega) (by omega) (by omega) (by omega), zp_o0 (by omega) (by omega) (by omega) (by omega), trivial⟩ (Nat.le_of_ble_eq_true rfl) trivial (fun al halξ rnn549ξ Pn549 Gn549 hextn549ξ hfrn549ξ hokn549ξ hcsn549ξ hpsin549ξ => ?_)
  obtain rfl := List.mem_singleton.mp halξ
  have hrn549ξ := zp_int (hokn549ξ _ rfl).1
  obtain ⟨hPen549ξ, hGen549ξ, htn549ξ⟩ := hpsin549ξ
  rw [hPen549ξ, hGen549ξ]
  clear hextn549ξ hfrn549ξ hcsn549ξ hPen549ξ hGen549ξ
  have htn549ξ : rnn549ξ = 1 ↔ 1 ≤ p2ξ ∧ p2ξ ≤ 9 := htn549ξ
  refine zp_if (pc := 15) (tgt := 20) hx hb (zd_X11_keyBy (15, .ifCond .ne 5, 3, 0, []) (List.mem_of_getElem? (i := 8) rfl)) rfl (fun (hc550ξ : ¬ rnn549ξ = 0) => ?_) (fun (hc550ξ : ¬ (¬ rnn549ξ = 0)) => ?_)
  · have hbt551ξ := (Iff.mp htn549ξ) (by omega)
    refine zp_load (pc := 20) hx hb (zd_X11_keyBy (20, .aload_n 0, 1, 0, []) (List.mem_of_getElem? (i := 11) rfl)) rfl (j := 1) rfl ?_
    refine zp_getf (n := (A 1 : Int)) (pc := 21) hx hb hEξ hwξ (zd_X11_keyBy (21, .getfield 10, 3, 0, []) (List.mem_of_getElem? (i := 12) rfl)) (j := 50) rfl rfl rfl (zM_P hMξ (hYbξ _ (List.mem_of_getElem? (i := 0) rfl))) ((zM_G hMξ (hYbξ _ (List.mem_of_getElem? (i := 0) rfl)) 0).trans (zM_F hMξ (hFbξ _ (List.mem_of_getElem? (i := 0) rfl)))) ?_
    refine zp_load (pc := 24) hx hb (zd_X11_keyBy (24, .iload_n 1, 1, 0, []) (List.mem_of_getElem? (i := 13) rfl)) rfl (j := 2) rfl ?_
    refine zp_call (pc := 25) (how := 0) (idx := 131) (mi := 22) (S := []) hx hb hEξ hwξ heffξ hrmξ (zX_hpe1 hWξ A Y F M) rfl (j := 15) rfl rfl (by decide +kernel) (zd_X11_keyBy (25, .invokevirtual 131, 3, 0, []) (List.mem_of_getElem? (i := 14) rfl)) [(A 1 : Int), p1ξ] rfl ⟨zp_o2 (zM_P hMξ (hYbξ _ (List.mem_of_getElem? (i := 1) rfl))), zp_o0 (by omega) (by omega) (by omega) (by omega), trivial⟩ (Nat.le_of_ble_eq_true rfl) ⟨hMξ, rfl, hYF0ξ⟩ (fun al halξ rni553ξ Pi553 Gi553 hexti553ξ hfri553ξ hoki553ξ hcsi553ξ hpsii553ξ => ?_)
    obtain rfl := List.mem_singleton.mp halξ
    have hri553ξ := zp_int (hoki553ξ _ rfl).1
    obtain ⟨hPei553ξ, hGei553ξ, hti553ξ⟩ := hpsii553ξ
    rw [hPei553ξ, hGei553ξ]
    clear hexti553ξ hfri553ξ hcsi553ξ hPei553ξ hGei553ξ
    have hti553ξ : rni553ξ = 1 ↔ 0 ≤ p1ξ ∧ p1ξ < (V 1 1) ∧ p1ξ < 6 := by
      have h9ξ : rni553ξ = 1 ↔ 0 ≤ p1ξ ∧ p1ξ < M 1 1 ∧ p1ξ < 6 := hti553ξ
      rw [(hVξ 1 1 (by decide))] at h9ξ
      exact h9ξ
    refine zp_if (pc := 28) (tgt := 34) hx hb (zd_X11_keyBy (28, .ifCond .ne 6, 3, 0, []) (List.mem_of_getElem? (i := 15) rfl)) rfl (fun (hc554ξ : ¬ rni553ξ = 0) => ?_) (fun (hc554ξ : ¬ (¬ rni553ξ = 0)) => ?_)
    · have hbt555ξ := (Iff.mp hti553ξ) (by omega)
      refine zp_load (pc := 34) hx hb (zd_X11_keyBy (34, .aload_n 3, 1, 0, []) (List.mem_of_getElem? (i := 18) rfl)) rfl (j := 0) rfl ?_
      refine zp_getf (n := (A 51 : Int)) (pc := 35) hx hb hEξ hwξ (zd_X11_keyBy (35, .getfield 144, 3, 0, []) (List.mem_of_getElem? (i := 19) rfl)) (j := 3) rfl rfl rfl (zM_P hMξ (hYbξ _ (List.mem_of_getElem? (i := 2) rfl))) ((zM_G hMξ (hYbξ _ (List.mem_of_getElem? (i := 2) rfl)) 1).trans (zM_F hMξ (hFbξ _ (List.mem_of_getElem? (i := 26) rfl)))) ?_
      refine zp_load (pc := 38) hx hb (zd_X11_keyBy (38, .iload_n 1, 1, 0, []) (List.mem_of_getElem? (i := 20) rfl)) rfl (j := 2) rfl ?_
      refine zp_iald (j := p1ξ.toNat) (v := (V 51 (2000 + p1ξ.toNat))) (pc := 39) hx hb hwξ (zd_X11_keyBy (39, .iaload, 1, 0, []) (List.mem_of_getElem? (i := 21) rfl)) (show zp_ia 1 18 = some (6, 0, 0, 0, 45) from rfl) (zM_P hMξ (hYbξ _ (List.mem_of_getElem? (i := 29) rfl))) (by omega) (by omega) ((zM_G hMξ (hYbξ _ (List.mem_of_getElem? (i := 29) rfl)) (2000 + p1ξ.toNat)).trans (hVξ 51 (2000 + p1ξ.toNat) (by decide))) (fun hk557ξ => ?_)
      have hk557bξ := zp_int hk557ξ
      clear hk557ξ
      refine zp_load (pc := 40) hx hb (zd_X11_keyBy (40, .iload_n 2, 1, 0, []) (List.mem_of_getElem? (i := 22) rfl)) rfl (j := 3) rfl ?_
      refine zp_add (n := ((V 51 (2000 + p1ξ.toNat)) + p2ξ)) (pc := 41) hx hb (zd_X11_keyBy (41, .iadd, 1, 0, []) (List.mem_of_getElem? (i := 23) rfl)) (by omega) (zp_r0 (by omega) (by omega)) ?_
      refine zp_store (L' := [(4, 0, ((V 51 (2000 + p1ξ.toNat)) + p2ξ)), (3, 2, (A 2 : Int)), (0, 2, (A 0 : Int)), (1, 0, p1ξ), (2, 0, p2ξ)]) (pc := 42) hx hb hnLξ (zd_X11_keyBy (42, .istore 4, 2, 0, []) (List.mem_of_getElem? (i := 24) rfl)) rfl rfl rfl ?_
      refine zp_load (pc := 44) hx hb (zd_X11_keyBy (44, .iload 4, 2, 0, []) (List.mem_of_getElem? (i := 25) rfl)) rfl (j := 0) rfl ?_
      refine zp_const (pc := 46) hx hb (zd_X11_keyBy (46, .bipush 9, 2, 0, []) (List.mem_of_getElem? (i := 26) rfl)) rfl rfl ?_
      refine zp_icmp (pc := 48) (tgt := 54) hx hb (zd_X11_keyBy (48, .if_icmp .le 6, 3, 0, []) (List.mem_of_getElem? (i := 27) rfl)) rfl (fun (hc558ξ : ((V 51 (2000 + p1ξ.toNat)) + p2ξ) ≤ 9) => ?_) (fun (hc558ξ : ¬ (((V 51 (2000 + p1ξ.toNat)) + p2ξ) ≤ 9)) => ?_)
      · refine zp_load (pc := 54) hx hb (zd_X11_keyBy (54, .aload_n 0, 1, 0, []) (List.mem_of_getElem? (i := 30) rfl)) rfl (j := 2) rfl ?_
        refine zp_getf (n := (A 4 : Int)) (pc := 55) hx hb hEξ hwξ (zd_X11_keyBy (55, .getfield 30, 3, 0, []) (List.mem_of_getElem? (i := 31) rfl)) (j := 53) rfl rfl rfl (zM_P hMξ (hYbξ _ (List.mem_of_getElem? (i := 0) rfl))) ((zM_G hMξ (hYbξ _ (List.mem_of_getElem? (i := 0) rfl)) 3).trans (zM_F hMξ (hFbξ _ (List.mem_of_getElem? (i := 3) rfl)))) ?_
        refine zp_load (pc := 58) hx hb (zd_X11_keyBy (58, .aload_n 0, 1, 0, []) (List.mem_of_getElem? (i := 32) rfl)) rfl (j := 2) rfl ?_
        refine zp_getf (n := (A 1 : Int)) (pc := 59) hx hb hEξ hwξ (zd_X11_keyBy (59, .getfield 10, 3, 0, []) (List.mem_of_getElem? (i := 33) rfl)) (j := 50) rfl rfl rfl (zM_P hMξ (hYbξ _ (List.mem_of_getElem? (i := 0) rfl))) ((zM_G hMξ (hYbξ _ (List.mem_of_getElem? (i := 0) rfl)) 0).trans (zM_F hMξ (hFbξ _ (List.mem_of_getElem? (i := 0) rfl)))) ?_
        refine zp_load (pc := 62) hx hb (zd_X11_keyBy (62, .aload_n 3, 1, 0, []) (List.mem_of_getElem? (i := 34) rfl)) rfl (j := 1) rfl ?_
        refine zp_const (pc := 63) hx hb (zd_X11_keyBy (63, .iconst 0, 1, 0, []) (List.mem_of_getElem? (i := 35) rfl)) rfl rfl ?_
        refine zp_load (pc := 64) hx hb (zd_X11_keyBy (64, .aload_n 3, 1, 0, []) (List.mem_of_getElem? (i := 36) rfl)) rfl (j := 1) rfl ?_
        refine zp_getf (n := (V 2 5)) (pc := 65) hx hb hEξ hwξ (zd_X11_keyBy (65, .getfield 280, 3, 0, []) (List.mem_of_getElem? (i := 37) rfl)) (j := 7) rfl rfl rfl (zM_P hMξ (hYbξ _ (List.mem_of_getElem? (i := 2) rfl))) ((zM_G hMξ (hYbξ _ (List.mem_of_getElem? (i := 2) rfl)) 5).trans (hVξ 2 5 (by decide))) ?_
        refine zp_kn (k := 5) (a := (A 2)) hwξ (show zp_fd 2 5 = some (2, 0, 0, (-2147483648), 2147483647) from rfl) rfl (zM_P hMξ (hYbξ _ (List.mem_of_getElem? (i := 2) rfl))) (fun hf559ξ => ?_)
        have hf559bξ := zp_int hf559ξ
        rw [((zM_G hMξ (hYbξ _ (List.mem_of_getElem? (i := 2) rfl)) 5).trans (hVξ 2 5 (by decide)))] at hf559bξ
        clear hf559ξ
        refine zp_mm (n := (max 0 (V 2 5))) (S := [(2, (A 2 : Int)), (2, (A 1 : Int)), (2, (A 4 : Int))]) (pc := 68) hx hb hEξ hrmξ (zd_X11_keyBy (68, .invokestatic 323, 3, 0, []) (List.mem_of_getElem? (i := 38) rfl)) (j := 71) rfl (Or.inl ⟨rfl, by omega⟩) ⟨by decide, Nat.le_of_ble_eq_true rfl⟩ ?_
        refine zp_call (pc := 71) (how := 0) (idx := 295) (mi := 90) (S := []) hx hb hEξ hwξ heffξ hrmξ (zX_abt2 hWξ A Y F V Lwξ) rfl (j := 34) rfl rfl (by decide +kernel) (zd_X11_keyBy (71, .invokevirtual 295, 3, 0, []) (List.mem_of_getElem? (i := 39) rfl)) [(A 4 : Int), (A 1 : Int), (A 2 : Int), (max 0 (V 2 5))] rfl ⟨zp_o2 (zM_P hMξ (hYbξ _ (List.mem_of_getElem? (i := 4) rfl))), zp_o2 (zM_P hMξ (hYbξ _ (List.mem_of_getElem? (i := 1) rfl))), zp_o2 (zM_P hMξ (hYbξ _ (List.mem_of_getElem? (i := 2) rfl))), zp_o0 (by omega) (by omega) (by omega) (by omega), trivial⟩ (Nat.le_of_ble_eq_true rfl) ⟨⟨M, hMξ, hVξ, trivial⟩, rfl, hYF0ξ, rfl, rfl, hlwξ⟩ (fun al halξ rnab560ξ Pab560 Gab560 hextab560ξ hfrab560ξ hokab560ξ hcsab560ξ hpsiab560ξ => ?_)
        obtain rfl := List.mem_singleton.mp halξ
        obtain ⟨hPeab560ξ, Mab560, hMab560ξ, hVab560ξ, hAbab560ξ⟩ := hpsiab560ξ
        have hAbab560ξ : zAb A Y F V Lwξ (zRc V 2 50) (max 0 (V 2 5)) Mab560 := hAbab560ξ
        subst hPeab560ξ
        clear hextab560ξ hfrab560ξ hokab560ξ hcsab560ξ
        refine zp_load (pc := 74) hx hb (zd_X11_keyBy (74, .aload_n 0, 1, 0, []) (List.mem_of_getElem? (i := 40) rfl)) rfl (j := 2) rfl ?_
        refine zp_getf (n := (A 4 : Int)) (pc := 75) hx hb hEξ hwξ (zd_X11_keyBy (75, .getfield 30, 3, 0, []) (List.mem_of_getElem? (i := 41) rfl)) (j := 53) rfl rfl rfl (zM_P hMab560ξ (hYbξ _ (List.mem_of_getElem? (i := 0) rfl))) ((zM_G hMab560ξ (hYbξ _ (List.mem_of_getElem? (i := 0) rfl)) 3).trans (zM_F hMab560ξ (hFbξ _ (List.mem_of_getElem? (i := 3) rfl)))) ?_
        refine zp_load (pc := 78) hx hb (zd_X11_keyBy (78, .iload_n 1, 1, 0, []) (List.mem_of_getElem? (i := 42) rfl)) rfl (j := 3) rfl ?_
        refine zp_load (pc := 79) hx hb (zd_X11_keyBy (79, .aload_n 3, 1, 0, []) (List.mem_of_getElem? (i := 43) rfl)) rfl (j := 1) rfl ?_
        refine zp_getf (n := (A 50 : Int)) (pc := 80) hx hb hEξ hwξ (zd_X11_keyBy (80, .getfield 138, 3, 0, []) (List.mem_of_getElem? (i := 44) rfl)) (j := 2) rfl rfl rfl (zM_P hMab560ξ (hYbξ _ (List.mem_of_getElem? (i := 2) rfl))) ((zM_G hMab560ξ (hYbξ _ (List.mem_of_getElem? (i := 2) rfl)) 0).trans (zM_F hMab560ξ (hFbξ _ (List.mem_of_getElem? (i := 25) rfl)))) ?_
        refine zp_load (pc := 83) hx hb (zd_X11_keyBy (83, .iload_n 1, 1, 0, []) (List.mem_of_getElem? (i := 45) rfl)) rfl (j := 3) rfl ?_
        refine zp_iald (j := p1ξ.toNat) (v := (V 50 (2000 + p1ξ.toNat))) (pc := 84) hx hb hwξ (zd_X11_keyBy (84, .iaload, 1, 0, []) (List.mem_of_getElem? (i := 46) rfl)) (show zp_ia 1 17 = some (6, 0, 0, (-2147483648), 2147483647) from rfl) (zM_P hMab560ξ (hYbξ _ (List.mem_of_getElem? (i := 28) rfl))) (by omega) (by omega) ((zM_G hMab560ξ (hYbξ _ (List.mem_of_getElem? (i := 28) rfl)) (2000 + p1ξ.toNat)).trans (hVab560ξ 50 (2000 + p1ξ.toNat) (by decide))) (fun hk561ξ => ?_)
        have hk561bξ := zp_int hk561ξ
        clear hk561ξ
        refine zp_load (pc := 85) hx hb (zd_X11_keyBy (85, .iload 4, 2, 0, []) (List.mem_of_getElem? (i := 47) rfl)) rfl (j := 0) rfl ?_
        obtain ⟨Rbξ, hRbξ⟩ : ∃ Rbξ, Rbξ = yu (zRc V 2 50) (3 * p1ξ.toNat + 13) ((V 51 (2000 + p1ξ.toNat)) + p2ξ) := ⟨_, rfl⟩
        have hAbzξ := zAb_f (R' := Rbξ) hAbab560ξ (fun o k h9ξ => rfl) (fun o k h9ξ => rfl) (by rw [hRbξ]; exact ⟨yu_ne (by omega), yu_ne (by omega), yu_ne (by omega)⟩)
        have hp9ξ : ¬ p1ξ = -1 := by omega
        have hRoξ : V 50 (2000 + p1ξ.toNat) = zg_po Rbξ 0 p1ξ := by
          unfold zg_po
          rw [if_neg hp9ξ, hRbξ, yu_ne (by omega)]
          exact (zRc_o (by omega)).symm
        have hRlξ : ((V 51 (2000 + p1ξ.toNat)) + p2ξ) = zg_po Rbξ 2 p1ξ := by
          unfold zg_po
          rw [if_neg hp9ξ, hRbξ]
          exact yu_at.symm
        have hlr562ξ := zg_lawM hMab560ξ hYF0ξ hVab560ξ hAbzξ (pw := (-1)) (hrξ := (-1)) (p := p1ξ) (o := (V 50 (2000 + p1ξ.toNat))) (l := ((V 51 (2000 + p1ξ.toNat)) + p2ξ)) (by omega) (by omega) (by omega) (by omega) (by omega) hRoξ hRlξ
        refine zp_call (pc := 87) (how := 0) (idx := 328) (mi := 102) (S := []) hx hb hEξ hwξ heffξ hrmξ (zX_ba_ hWξ (A 66) (fun j => Mab560 66 (2000 + j)) (zg_ew Rbξ zd_S0 (max 0 (V 2 5)) (-1) (-1) p1ξ) Lwξ) rfl (j := 38) rfl rfl (by decide +kernel) (zd_X11_keyBy (87, .invokevirtual 328, 3, 0, []) (List.mem_of_getElem? (i := 48) rfl)) [(A 4 : Int), p1ξ, (V 50 (2000 + p1ξ.toNat)), ((V 51 (2000 + p1ξ.toNat)) + p2ξ)] rfl ⟨zp_o2 (zM_P hMab560ξ (hYbξ _ (List.mem_of_getElem? (i := 4) rfl))), zp_o0 (by omega) (by omega) (by omega) (by omega), zp_o0 (by omega) (by omega) (by omega) (by omega), zp_o0 (by omega) (by omega) (by omega) (by omega), trivial⟩ (Nat.le_of_ble_eq_true rfl) hlr562ξ (fun al halξ rnr562ξ Pr562 Gr562 hextr562ξ hfrr562ξ hokr562ξ hcsr562ξ hpsir562ξ => ?_)
        obtain rfl := List.mem_singleton.mp halξ
        have hrr562ξ := zp_int (hokr562ξ _ rfl).1
        obtain ⟨hPer562ξ, hWnr562ξ, htr562ξ⟩ := hpsir562ξ
        obtain ⟨Mr562, hMr562ξ, hMkr562ξ, hM6r562ξ⟩ := zM_rul hMab560ξ hYF0ξ hfrr562ξ hextr562ξ
        subst hPer562ξ
        have hVr562ξ : ∀ o k, zNc o → Mr562 o k = V o k := fun o k hkξ => (hMkr562ξ o k (fun e => hkξ (by rw [e]; decide)) (fun e => hkξ (by rw [e]; decide))).trans (hVab560ξ o k hkξ)
        have hAbr562ξ := zAb_n (hAbzξ) (fun j => (hM6r562ξ (2000 + j)).trans (hWnr562ξ j)) hlr562ξ.1.2.2.2.2.1 (hMkr562ξ 4 2 (by decide) (by decide))
        clear hextr562ξ hfrr562ξ hokr562ξ hcsr562ξ hlr562ξ
        have htr562ξ : rnr562ξ = (zy_ba (zg_ew Rbξ zd_S0 (max 0 (V 2 5)) (-1) (-1) p1ξ) Lwξ) := htr562ξ
        rw [hRbξ] at htr562ξ
        have hbr562ξ := zy_bab (en := zg_ew (yu (zRc V 2 50) (3 * p1ξ.toNat + 13) ((V 51 (2000 + p1ξ.toNat)) + p2ξ)) zd_S0 (max 0 (V 2 5)) (-1) (-1) p1ξ) (M := Lwξ)
        have htr562ξ := (Eq.symm htr562ξ)
        subst htr562ξ
        refine zp_if (pc := 90) (tgt := 96) hx hb (zd_X11_keyBy (90, .ifCond .eq 6, 3, 0, []) (List.mem_of_getElem? (i := 49) rfl)) rfl (fun (hc563ξ : (zy_ba (zg_ew (yu (zRc V 2 50) (3 * p1ξ.toNat + 13) ((V 51 (2000 + p1ξ.toNat)) + p2ξ)) zd_S0 (max 0 (V 2 5)) (-1) (-1) p1ξ) Lwξ) = 0) => ?_) (fun (hc563ξ : ¬ ((zy_ba (zg_ew (yu (zRc V 2 50) (3 * p1ξ.toNat + 13) ((V 51 (2000 + p1ξ.toNat)) + p2ξ)) zd_S0 (max 0 (V 2 5)) (-1) (-1) p1ξ) Lwξ) = 0)) => ?_)
        · refine zp_load (pc := 96) hx hb (zd_X11_keyBy (96, .aload_n 0, 1, 0, []) (List.mem_of_getElem? (i := 52) rfl)) rfl (j := 2) rfl ?_
          refine zp_getf (n := (A 3 : Int)) (pc := 97) hx hb hEξ hwξ (zd_X11_keyBy (97, .getfield 23, 3, 0, []) (List.mem_of_getElem? (i := 53) rfl)) (j := 52) rfl rfl rfl (zM_P hMr562ξ (hYbξ _ (List.mem_of_getElem? (i := 0) rfl))) ((zM_G hMr562ξ (hYbξ _ (List.mem_of_getElem? (i := 0) rfl)) 2).trans (zM_F hMr562ξ (hFbξ _ (List.mem_of_getElem? (i := 2) rfl)))) ?_
          refine zp_const (pc := 100) hx hb (zd_X11_keyBy (100, .iconst 1, 1, 0, []) (List.mem_of_getElem? (i := 54) rfl)) rfl rfl ?_
          refine zp_load (pc := 101) hx hb (zd_X11_keyBy (101, .aload_n 3, 1, 0, []) (List.mem_of_getElem? (i := 55) rfl)) rfl (j := 1) rfl ?_
          refine zp_call (pc := 102) (how := 0) (idx := 316) (mi := 88) (S := []) hx hb hEξ hwξ heffξ hrmξ (zX_kep3 hWξ A Y F V) rfl (j := 33) rfl rfl (by decide +kernel) (zd_X11_keyBy (102, .invokevirtual 316, 3, 0, []) (List.mem_of_getElem? (i := 56) rfl)) [(A 3 : Int), 1, (A 2 : Int)] rfl ⟨zp_o2 (zM_P hMr562ξ (hYbξ _ (List.mem_of_getElem? (i := 3) rfl))), zp_o0 (by omega) (by omega) (by omega) (by omega), zp_o2 (zM_P hMr562ξ (hYbξ _ (List.mem_of_getElem? (i := 2) rfl))), trivial⟩ (Nat.le_of_ble_eq_true rfl) ⟨⟨Mr562, hMr562ξ, hVr562ξ, trivial⟩, rfl, hYF0ξ, rfl⟩ (fun al halξ rna564ξ Pa564 Ga564 hexta564ξ hfra564ξ hoka564ξ hcsa564ξ hpsia564ξ => ?_)
          obtain rfl := List.mem_singleton.mp halξ
          obtain ⟨hPea564ξ, Ma564, hMa564ξ, hVa564ξ, hSba564ξ⟩ := hpsia564ξ
          subst hPea564ξ
          clear hexta564ξ hfra564ξ hcsa564ξ hoka564ξ
          have hVa564ξ : ∀ o k, zNc o → Ma564 o k = (zf_kep3 V 1).2 o k := hVa564ξ
          refine zp_load (pc := 105) hx hb (zd_X11_keyBy (105, .aload_n 3, 1, 0, []) (List.mem_of_getElem? (i := 57) rfl)) rfl (j := 1) rfl ?_
          refine zp_getf (n := (A 51 : Int)) (pc := 106) hx hb hEξ hwξ (zd_X11_keyBy (106, .getfield 144, 3, 0, []) (List.mem_of_getElem? (i := 58) rfl)) (j := 3) rfl rfl rfl (zM_P hMa564ξ (hYbξ _ (List.mem_of_getElem? (i := 2) rfl))) ((zM_G hMa564ξ (hYbξ _ (List.mem_of_getElem? (i := 2) rfl)) 1).trans (zM_F hMa564ξ (hFbξ _ (List.mem_of_getElem? (i := 26) rfl)))) ?_
          refine zp_load (pc := 109) hx hb (zd_X11_keyBy (109, .iload_n 1, 1, 0, []) (List.mem_of_getElem? (i := 59) rfl)) rfl (j := 3) rfl ?_
          refine zp_load (pc := 110) hx hb (zd_X11_keyBy (110, .iload 4, 2, 0, []) (List.mem_of_getElem? (i := 60) rfl)) rfl (j := 0) rfl ?_
          refine zp_iast (j := p1ξ.toNat) (pc := 112) hx hb hwξ heffξ (zd_X11_keyBy (112, .iastore, 1, 0, []) (List.mem_of_getElem? (i := 61) rfl)) (show zp_ia 1 18 = some (6, 0, 0, 0, 45) from rfl) (zM_P hMa564ξ (hYbξ _ (List.mem_of_getElem? (i := 29) rfl))) (by omega) (by omega) (zp_o0 (by omega) (by omega) (by omega) (by omega)) rfl ?_
          refine zp_load (pc := 113) hx hb (zd_X11_keyBy (113, .iload 4, 2, 0, []) (List.mem_of_getElem? (i := 62) rfl)) rfl (j := 0) rfl ?_
          refine zp_iret (pc := 115) (n := ((V 51 (2000 + p1ξ.toNat)) + p2ξ)) hx hb hEξ hQξ hU5ξ rfl (by decide) (zd_X11_keyBy (115, .ireturn, 1, 0, []) (List.mem_of_getElem? (i := 63) rfl)) (j := 0) rfl (zp_o0 (by omega) (by omega) (by omega) (by omega)) ?_
          rw [hpsξ]
          refine ⟨rfl, ?_⟩
          have hffξ : zf_keybc V Lwξ p1ξ p2ξ = (((V 51 (2000 + p1ξ.toNat)) + p2ξ), (zp_set (zf_kep3 V 1).2 51 (2000 + p1ξ.toNat) ((V 51 (2000 + p1ξ.toNat)) + p2ξ))) := by
            unfold zf_keybc
            rw [if_pos ((Iff.mp htn549ξ) (by omega)), if_pos ((Iff.mp hti553ξ) (by omega)), if_pos hc558ξ, if_pos hc563ξ]
          show zMVc A Y F (zf_keybc V Lwξ p1ξ p2ξ).2 u.1 (zp_set Ga564 (A 51) (2000 + p1ξ.toNat) ((V 51 (2000 + p1ξ.toNat)) + p2ξ)) ∧ ((V 51 (2000 + p1ξ.toNat)) + p2ξ) = (zf_keybc V Lwξ p1ξ p2ξ).1
          rw [hffξ]
          exact ⟨⟨(zp_set Ma564 51 (2000 + p1ξ.toNat) ((V 51 (2000 + p1ξ.toNat)) + p2ξ)), (zM_setE hMa564ξ (hYbξ _ (List.mem_of_getElem? (i := 29) rfl))), (zV_set hVa564ξ), trivial⟩, rfl⟩
        · refine zp_const (pc := 93) hx hb (zd_X11_keyBy (93, .bipush (-3), 2, 0, []) (List.mem_of_getElem? (i := 50) rfl)) rfl rfl ?_
          refine zp_iret (pc := 95) (n := (-3)) hx hb hEξ hQξ hU5ξ rfl (by decide) (zd_X11_keyBy (95, .ireturn, 1, 0, []) (List.mem_of_getElem? (i := 51) rfl)) (j := 0) rfl (zp_o0 (by omega) (by omega) (by omega) (by omega)) ?_
          rw [hpsξ]
          refine ⟨rfl, ?_⟩
          have hffξ : zf_keybc V Lwξ p1ξ p2ξ = ((-3), V) := by
            unfold zf_keybc
            rw [if_pos ((Iff.mp htn549ξ) (by omega)), if_pos ((Iff.mp hti553ξ) (by omega)), if_pos hc558ξ, if_neg hc563ξ]
          show zMVc A Y F (zf_keybc V Lwξ p1ξ p2ξ).2 u.1 Gr562 ∧ (-3) = (zf_keybc V Lwξ p1ξ p2ξ).1
          rw [hffξ]
          exact ⟨⟨Mr562, hMr562ξ, hVr562ξ, trivial⟩, rfl⟩
      · refine zp_const (pc := 51) hx hb (zd_X11_keyBy (51, .bipush (-3), 2, 0, []) (List.mem_of_getElem? (i := 28) rfl)) rfl rfl ?_
        refine zp_iret (pc := 53) (n := (-3)) hx hb hEξ hQξ hU5ξ rfl (by decide) (zd_X11_keyBy (53, .ireturn, 1, 0, []) (List.mem_of_getElem? (i := 29) rfl)) (j := 0) rfl (zp_o0 (by omega) (by omega) (by omega) (by omega)) ?_
        rw [hpsξ]
        refine ⟨rfl, ?_⟩
        have hffξ : zf_keybc V Lwξ p1ξ p2ξ = ((-3), V) := by
          unfold zf_keybc
          rw [if_pos ((Iff.mp htn549ξ) (by omega)), if_pos ((Iff.mp hti553ξ) (by omega)), if_neg hc558ξ]
        show zMVc A Y F (zf_keybc V Lwξ p1ξ p2ξ).2 u.1 (zp_n u.2.1) ∧ (-3) = (zf_keybc V Lwξ p1ξ p2ξ).1
        rw [hffξ]
        exact ⟨⟨M, hMξ, hVξ, trivial⟩, rfl⟩
    · have hbf556ξ : ¬ (0 ≤ p1ξ ∧ p1ξ < (V 1 1) ∧ p1ξ < 6) := fun h9ξ => absurd ((Iff.mpr hti553ξ) h9ξ) (by omega)
      refine zp_const (pc := 31) hx hb (zd_X11_keyBy (31, .bipush (-2), 2, 0, []) (List.mem_of_getElem? (i := 16) rfl)) rfl rfl ?_
      refine zp_iret (pc := 33) (n := (-2)) hx hb hEξ hQξ hU5ξ rfl (by decide) (zd_X11_keyBy (33, .ireturn, 1, 0, []) (List.mem_of_getElem? (i := 17) rfl)) (j := 0) rfl (zp_o0 (by omega) (by omega) (by omega) (by omega)) ?_
      rw [hpsξ]
      refine ⟨rfl, ?_⟩
      have hffξ : zf_keybc V Lwξ p1ξ p2ξ = ((-2), V) := by
        unfold zf_keybc
        rw [if_pos ((Iff.mp htn549ξ) (by omega)), if_neg (fun h9ξ => absurd ((Iff.mpr hti553ξ) h9ξ) (by omega))]
      show zMVc A Y F (zf_keybc V Lwξ p1ξ p2ξ).2 u.1 (zp_n u.2.1) ∧ (-2) = (zf_keybc V Lwξ p1ξ p2ξ).1
      rw [hffξ]
      exact ⟨⟨M, hMξ, hVξ, trivial⟩, rfl⟩
  · have hbf552ξ : ¬ (1 ≤ p2ξ ∧ p2ξ ≤ 9) := fun h9ξ => absurd ((Iff.mpr htn549ξ) h9ξ) (by omega)
    refine zp_const (pc := 18) hx hb (zd_X11_keyBy (18, .iconst (-1), 1, 0, []) (List.mem_of_getElem? (i := 9) rfl)) rfl rfl ?_
    refine zp_iret (pc := 19) (n := (-1)) hx hb hEξ hQξ hU5ξ rfl (by decide) (zd_X11_keyBy (19, .ireturn, 1, 0, []) (List.mem_of_getElem? (i := 10) rfl)) (j := 0) rfl (zp_o0 (by omega) (by omega) (by omega) (by omega)) ?_
    rw [hpsξ]
    refine ⟨rfl, ?_⟩
    have hffξ : zf_keybc V Lwξ p1ξ p2ξ = ((-1), V) := by
      unfold zf_keybc
      rw [if_neg (fun h9ξ => absurd ((Iff.mpr htn549ξ) h9ξ) (by omega))]
    show zMVc A Y F (zf_keybc V Lwξ p1ξ p2ξ).2 u.1 (zp_n u.2.1) ∧ (-1) = (zf_keybc V Lwξ p1ξ p2ξ).1
    rw [hffξ]
    exact ⟨⟨M, hMξ, hVξ, trivial⟩, rfl⟩
theorem zf_keybc_f {V : Nat → Nat → Int} {Lwξ : List yK} {p1ξ : Int} {p2ξ : Int} {o k : Nat} (h9ξ : o ∉ ([3, 51, 62, 63] : List Nat)) : (zf_keybc V Lwξ p1ξ p2ξ).2 o k = V o k := by
  unfold zf_keybc
  by_cases hd2ξ : 1 ≤ p2ξ ∧ p2ξ ≤ 9
  · rw [if_pos hd2ξ]
    by_cases hd4ξ : 0 ≤ p1ξ ∧ p1ξ < (V 1 1) ∧ p1ξ < 6
    · rw [if_pos hd4ξ]
      by_cases hd6ξ : ((V 51 (2000 + p1ξ.toNat)) + p2ξ) ≤ 9
      · rw [if_pos hd6ξ]
        by_cases hd8ξ : (zy_ba (zg_ew (yu (zRc V 2 50) (3 * p1ξ.toNat + 13) ((V 51 (2000 + p1ξ.toNat)) + p2ξ)) zd_S0 (max 0 (V 2 5)) (-1) (-1) p1ξ) Lwξ) = 0
        · rw [if_pos hd8ξ]
          show (zp_set (zf_kep3 V 1).2 51 (2000 + p1ξ.toNat) ((V 51 (2000 + p1ξ.toNat)) + p2ξ)) o k = V o k
          exact ((zp_set_ne (Or.inl (zc_nin h9ξ (by decide)))).trans (zf_kep3_f (zc_sub h9ξ (by decide))))
        · rw [if_neg hd8ξ]
      · rw [if_neg hd6ξ]
    · rw [if_neg hd4ξ]
  · rw [if_neg hd2ξ]
noncomputable def zf_keyc (V : Nat → Nat → Int) (Lwξ : List yK) (p1ξ : Int) (p2ξ : Int) : Int × (Nat → Nat → Int) := (((zf_stc (zf_keybc V Lwξ p1ξ p2ξ).2 ((zf_keybc V Lwξ p1ξ p2ξ).1)).1), (zf_stc (zf_keybc V Lwξ p1ξ p2ξ).2 ((zf_keybc V Lwξ p1ξ p2ξ).1)).2)
noncomputable def zK_keyc : zk_K := (zt_mn 122, prog_1_method_24_code, 3, (Option.some Jvm.ClassFile.FieldType.int), 1, 11, [(2, 12, 0, 0), (0, 0, (-2147483648), 2147483647), (0, 0, (-2147483648), 2147483647)], [(some (0, 0, (-2147483648), 2147483647), [])], zUC, (5, 300, 0, 0))
noncomputable def zφ_keyc (A : Nat → Nat) (Y : List (Nat × Nat)) (F : List (Nat × Nat × Nat)) (V : Nat → Nat → Int) (Lwξ : List yK) : (Nat → Option Nat) → (Nat → Nat → Int) → List Int → Prop := fun P G ps => zMVc A Y F V P G ∧ ps.getD 0 0 = (A 0 : Int) ∧ zMc Y F ∧ zLF A Y F V Lwξ ∧ -2147483648 ≤ V 2 5 ∧ V 2 5 ≤ 12
noncomputable def zψ_keyc (A : Nat → Nat) (Y : List (Nat × Nat)) (F : List (Nat × Nat × Nat)) (V : Nat → Nat → Int) (Lwξ : List yK) : (Nat → Option Nat) → (Nat → Nat → Int) → List Int → (Nat → Option Nat) → (Nat → Nat → Int) → Int → Prop := fun P G ps P' G' rn => P' = P ∧ zMVc A Y F (zf_keyc V Lwξ (ps.getD 1 0) (ps.getD 2 0)).2 P' G' ∧ rn = (zf_keyc V Lwξ (ps.getD 1 0) (ps.getD 2 0)).1
theorem zX_keyc {l : Launch} {w : zk_W} (hWξ : zh_W w) (A : Nat → Nat) (Y : List (Nat × Nat)) (F : List (Nat × Nat × Nat)) (V : Nat → Nat → Int) (Lwξ : List yK) : zk_metX l w zt_dv zt_TB zK_keyc (zp_A (zφ_keyc A Y F V Lwξ)) (zp_B (zψ_keyc A Y F V Lwξ)) ∧ zk_cok w zt_TB zK_keyc := by
  refine zp_methX (cn := "WoundTown") zp_lkallW hWξ (pl := 1070) rfl (by decide +kernel) (fun p e R s m args below meth c Q u hx hb hEξ hQξ hU5ξ heffξ hnLξ hokξ hφ => ?_)
  have hwξ := hWξ.1
  obtain ⟨p0ξ, p1ξ, p2ξ, hpsξ, tk0, tk1, tk2⟩ := zp_ps3 hokξ
  have hrmξ : zk_Kr (zk_ev (zt_types, zp_lkW, zt_dv, [], [], zp_lcW, zK_keyc)) = zk_Kr zK_keyc := rfl
  rw [hpsξ] at hφ ⊢
  have hφ : zMVc A Y F V u.1 (zp_n u.2.1) ∧ p0ξ = (A 0 : Int) ∧ zMc Y F ∧ zLF A Y F V Lwξ ∧ -2147483648 ≤ V 2 5 ∧ V 2 5 ≤ 12 := hφ
  obtain ⟨⟨M, hMξ, hVξ, hSbξ⟩, rfl, hYFξ, hlwξ, htr0ξ, htr1ξ⟩ := hφ
  have hYF0ξ := hYFξ
  obtain ⟨hYbξ, hFbξ, hFxξ, -⟩ := hYFξ
  have hi1ξ := zp_int tk1
  have hi2ξ := zp_int tk2
  show zp_J p l e R s m args below meth c Q w u [] 0 [(0, 2, (A 0 : Int)), (1, 0, p1ξ), (2, 0, p2ξ)] [] u.1 (zp_n u.2.1)
  refine zp_load (pc := 0) hx hb (zd_X11_key (0, .aload_n 0, 1, 0, []) (List.mem_of_getElem? (i := 0) rfl)) rfl (j := 0) rfl ?_
  refine zp_load (pc := 1) hx hb (zd_X11_key (1, .aload_n 0, 1, 0, []) (List.mem_of_getElem? (i := 1) rfl)) rfl (j := 0) rfl ?_
  refine zp_load (pc := 2) hx hb (zd_X11_key (2, .iload_n 1, 1, 0, []) (List.mem_of_getElem? (i := 2) rfl)) rfl (j := 1) rfl ?_
  refine zp_load (pc := 3) hx hb (zd_X11_key (3, .iload_n 2, 1, 0, []) (List.mem_of_getElem? (i := 3) rfl)) rfl (j := 2) rfl ?_
  refine zp_call (pc := 4) (how := 0) (idx := 270) (mi := 101) (S := [(2, (A 0 : Int))]) hx hb hEξ hwξ heffξ hrmξ (zX_keybc hWξ A Y F V Lwξ) rfl (j := 37) rfl rfl (by decide +kernel) (zd_X11_key (4, .invokevirtual 270, 3, 0, []) (List.mem_of_getElem? (i := 4) rfl)) [(A 0 : Int), p1ξ, p2ξ] rfl ⟨zp_o2 (zM_P hMξ (hYbξ _ (List.mem_of_getElem? (i := 0) rfl))), zp_o0 (by omega) (by omega) (by omega) (by omega), zp_o0 (by omega) (by omega) (by omega) (by omega), trivial⟩ (Nat.le_of_ble_eq_true rfl) ⟨⟨M, hMξ, hVξ, trivial⟩, rfl, hYF0ξ, hlwξ, htr0ξ, htr1ξ⟩ (fun al halξ rna565ξ Pa565 Ga565 hexta565ξ hfra565ξ hoka565ξ hcsa565ξ hpsia565ξ => ?_)
  obtain rfl := List.mem_singleton.mp halξ
  have hra565ξ := zp_int (hoka565ξ _ rfl).1
  obtain ⟨hPea565ξ, ⟨Ma565, hMa565ξ, hVa565ξ, hSba565ξ⟩, hta565ξ⟩ := hpsia565ξ
  subst hPea565ξ
  clear hexta565ξ hfra565ξ hcsa565ξ hoka565ξ
  have hVa565ξ : ∀ o k, zNc o → Ma565 o k = (zf_keybc V Lwξ p1ξ p2ξ).2 o k := hVa565ξ
  have hta565ξ : rna565ξ = ((zf_keybc V Lwξ p1ξ p2ξ).1) := hta565ξ
  have hta565ξ := (Eq.symm hta565ξ)
  subst hta565ξ
  refine zp_call (pc := 7) (how := 0) (idx := 305) (mi := 121) (S := []) hx hb hEξ hwξ heffξ hrmξ (zX_stc hWξ A Y F (zf_keybc V Lwξ p1ξ p2ξ).2) rfl (j := 43) rfl rfl (by decide +kernel) (zd_X11_key (7, .invokevirtual 305, 3, 0, []) (List.mem_of_getElem? (i := 5) rfl)) [(A 0 : Int), ((zf_keybc V Lwξ p1ξ p2ξ).1)] rfl ⟨zp_o2 (zM_P hMa565ξ (hYbξ _ (List.mem_of_getElem? (i := 0) rfl))), zp_o0 (by omega) (by omega) (by omega) (by omega), trivial⟩ (Nat.le_of_ble_eq_true rfl) ⟨⟨Ma565, hMa565ξ, hVa565ξ, trivial⟩, rfl, hYF0ξ⟩ (fun al halξ rna566ξ Pa566 Ga566 hexta566ξ hfra566ξ hoka566ξ hcsa566ξ hpsia566ξ => ?_)
  obtain rfl := List.mem_singleton.mp halξ
  have hra566ξ := zp_int (hoka566ξ _ rfl).1
  obtain ⟨hPea566ξ, ⟨Ma566, hMa566ξ, hVa566ξ, hSba566ξ⟩, hta566ξ⟩ := hpsia566ξ
  subst hPea566ξ
  clear hexta566ξ hfra566ξ hcsa566ξ hoka566ξ
  have hVa566ξ : ∀ o k, zNc o → Ma566 o k = (zf_stc (zf_keybc V Lwξ p1ξ p2ξ).2 ((zf_keybc V Lwξ p1ξ p2ξ).1)).2 o k := hVa566ξ
  have hta566ξ : rna566ξ = ((zf_stc (zf_keybc V Lwξ p1ξ p2ξ).2 ((zf_keybc V Lwξ p1ξ p2ξ).1)).1) := hta566ξ
  have hta566ξ := (Eq.symm hta566ξ)
  subst hta566ξ
  refine zp_iret (pc := 10) (n := ((zf_stc (zf_keybc V Lwξ p1ξ p2ξ).2 ((zf_keybc V Lwξ p1ξ p2ξ).1)).1)) hx hb hEξ hQξ hU5ξ rfl (by decide) (zd_X11_key (10, .ireturn, 1, 0, []) (List.mem_of_getElem? (i := 6) rfl)) (j := 0) rfl (zp_o0 (by omega) (by omega) (by omega) (by omega)) ?_
  rw [hpsξ]
  refine ⟨rfl, ?_⟩
  have hffξ : zf_keyc V Lwξ p1ξ p2ξ = (((zf_stc (zf_keybc V Lwξ p1ξ p2ξ).2 ((zf_keybc V Lwξ p1ξ p2ξ).1)).1), (zf_stc (zf_keybc V Lwξ p1ξ p2ξ).2 ((zf_keybc V Lwξ p1ξ p2ξ).1)).2) := rfl
  show zMVc A Y F (zf_keyc V Lwξ p1ξ p2ξ).2 u.1 Ga566 ∧ ((zf_stc (zf_keybc V Lwξ p1ξ p2ξ).2 ((zf_keybc V Lwξ p1ξ p2ξ).1)).1) = (zf_keyc V Lwξ p1ξ p2ξ).1
  rw [hffξ]
  exact ⟨⟨Ma566, hMa566ξ, hVa566ξ, trivial⟩, rfl⟩
/-- what is done stands in the town -/
noncomputable def zc_put (V : Nat → Nat → Int) (o : Nat) (X : (Nat → Int) × (Nat → Int)) : Nat → Nat → Int := fun o' k => if o' = o ∧ 2000 ≤ k ∧ k < 2010 then X.1 (k - 2000) else V o' k
theorem zc_put_o {V : Nat → Nat → Int} {o o' k : Nat} {X : (Nat → Int) × (Nat → Int)} (h : o' ≠ o) : zc_put V o X o' k = V o' k := if_neg (fun z => h z.1)
theorem zc_putV {N : Nat → Prop} {M V : Nat → Nat → Int} {X : (Nat → Int) × (Nat → Int)} {o : Nat} (h : ∀ o k, N o → M o k = V o k) (hXξ : zDX X M) : ∀ o' k, N o' → zc_cp M 69 0 o 0 10 o' k = zc_put V o X o' k := fun o' k hkξ => by
  unfold zc_cp zc_put
  by_cases c : o' = o ∧ 2000 ≤ k ∧ k < 2010
  · rw [if_pos ⟨c.1, by omega, by omega⟩, if_pos c]
    have h9ξ := (hXξ (k - 2000) (by omega)).1
    rw [show 0 + (k - (2000 + 0)) = k - 2000 by omega]
    exact h9ξ
  · rw [if_neg (fun z => c ⟨z.1, by omega, by omega⟩), if_neg c]
    exact h o' k hkξ
theorem zp_ncc {A : Nat → Nat} {Y : List (Nat × Nat)} {F : List (Nat × Nat × Nat)} {M M' : Nat → Nat → Int} {P P' : Nat → Option Nat} {G G' : Nat → Nat → Int} {eff : List (Nat × Nat × Nat)} {ps : List Int} {o t : Nat} (hfrξ : zp_fr eff ps P G G') (hMξ : zM A Y F M P G) (hM' : zM A Y F M' P' G') (hmξ : (o, t) ∈ Y) (heξ : zp_ncb eff t = true) (k : Nat) : M' o k = M o k := ((zM_G hM' hmξ k).symm).trans ((zp_nc hfrξ (zM_P hMξ hmξ) heξ k).trans (zM_G hMξ hmξ k))
noncomputable def zK_ised : zk_K := (zt_mn 113, prog_2_method_10_code, 2, (Option.some Jvm.ClassFile.FieldType.boolean), 1, 0, [(2, 0, 0, 0), (0, 0, (-2147483648), 2147483647)], [(some (0, 0, 0, 1), [])], [], (0, 0, 0, 0))
noncomputable def zφ_ised (A : Nat → Nat) (Y : List (Nat × Nat)) (F : List (Nat × Nat × Nat)) (M : Nat → Nat → Int) (V : Nat → Nat → Int) (X : (Nat → Int) × (Nat → Int)) : (Nat → Option Nat) → (Nat → Nat → Int) → List Int → Prop := fun P G ps => zM A Y F M P G ∧ ps.getD 0 0 = (A 5 : Int) ∧ zMc Y F ∧ (∀ o k, zNc o → M o k = V o k) ∧ M 5 1 = (A 1 : Int) ∧ zDX X M
noncomputable def zψ_ised (A : Nat → Nat) (Y : List (Nat × Nat)) (F : List (Nat × Nat × Nat)) (M : Nat → Nat → Int) (V : Nat → Nat → Int) (X : (Nat → Int) × (Nat → Int)) : (Nat → Option Nat) → (Nat → Nat → Int) → List Int → (Nat → Option Nat) → (Nat → Nat → Int) → Int → Prop := fun P G ps P' G' rn => P' = P ∧ G' = G ∧ (rn = 1 ↔ (0 ≤ (ps.getD 1 0) ∧ (ps.getD 1 0) < 10) ∧ X.2 (ps.getD 1 0).toNat ≠ -1)
theorem zX_ised {l : Launch} {w : zk_W} (hWξ : zh_W w) (A : Nat → Nat) (Y : List (Nat × Nat)) (F : List (Nat × Nat × Nat)) (M : Nat → Nat → Int) (V : Nat → Nat → Int) (X : (Nat → Int) × (Nat → Int)) : zk_metX l w zt_dv zt_TB zK_ised (zp_A (zφ_ised A Y F M V X)) (zp_B (zψ_ised A Y F M V X)) ∧ zk_cok w zt_TB zK_ised := by
  refine zp_methX (cn := "WoundTown$Day") zp_lkallDy hWξ (pl := 1033) rfl (by decide +kernel) (fun p e R s m args below meth c Q u hx hb hEξ hQξ hU5ξ heffξ hnLξ hokξ hφ => ?_)
  have hwξ := hWξ.1
  obtain ⟨p0ξ, p1ξ, hpsξ, tk0, tk1⟩ := zp_ps2 hokξ
  have hrmξ : zk_Kr (zk_ev (zt_types, zp_lkDy, zt_dv, [], [], zp_lcDy, zK_ised)) = zk_Kr zK_ised := rfl
  rw [hpsξ] at hφ ⊢
  have hφ : zM A Y F M u.1 (zp_n u.2.1) ∧ p0ξ = (A 5 : Int) ∧ zMc Y F ∧ (∀ o k, zNc o → M o k = V o k) ∧ M 5 1 = (A 1 : Int) ∧ zDX X M := hφ
  obtain ⟨hMξ, rfl, hYFξ, hVξ, h51ξ, hXξ⟩ := hφ
  have hYF0ξ := hYFξ
  obtain ⟨hYbξ, hFbξ, hFxξ, -⟩ := hYFξ
  have hi1ξ := zp_int tk1
  show zp_J p l e R s m args below meth c Q w u [] 0 [(0, 2, (A 5 : Int)), (1, 0, p1ξ)] [] u.1 (zp_n u.2.1)
  refine zp_load (pc := 0) hx hb (zd_X0_isEnding (0, .iload_n 1, 1, 0, []) (List.mem_of_getElem? (i := 0) rfl)) rfl (j := 1) rfl ?_
  refine zp_if (pc := 1) (tgt := 24) hx hb (zd_X0_isEnding (1, .ifCond .lt 23, 3, 0, []) (List.mem_of_getElem? (i := 1) rfl)) rfl (fun (hc567ξ : p1ξ < 0) => ?_) (fun (hc567ξ : ¬ (p1ξ < 0)) => ?_)
  · refine zp_const (pc := 24) hx hb (zd_X0_isEnding (24, .iconst 0, 1, 0, []) (List.mem_of_getElem? (i := 13) rfl)) rfl rfl ?_
    refine zp_zret (pc := 25) (n := 0) hx hb hEξ hQξ hU5ξ rfl (by decide) (zd_X0_isEnding (25, .ireturn, 1, 0, []) (List.mem_of_getElem? (i := 14) rfl)) (j := 0) rfl (zp_o0 (by omega) (by omega) (by omega) (by omega)) ?_
    rw [hpsξ]
    refine ⟨rfl, rfl, ?_⟩
    show (0 : Int) = 1 ↔ (0 ≤ p1ξ ∧ p1ξ < 10) ∧ X.2 p1ξ.toNat ≠ -1
    omega
  · refine zp_load (pc := 4) hx hb (zd_X0_isEnding (4, .iload_n 1, 1, 0, []) (List.mem_of_getElem? (i := 2) rfl)) rfl (j := 1) rfl ?_
    refine zp_const (pc := 5) hx hb (zd_X0_isEnding (5, .bipush 10, 2, 0, []) (List.mem_of_getElem? (i := 3) rfl)) rfl rfl ?_
    refine zp_icmp (pc := 7) (tgt := 24) hx hb (zd_X0_isEnding (7, .if_icmp .ge 17, 3, 0, []) (List.mem_of_getElem? (i := 4) rfl)) rfl (fun (hc568ξ : 10 ≤ p1ξ) => ?_) (fun (hc568ξ : ¬ (10 ≤ p1ξ)) => ?_)
    · refine zp_const (pc := 24) hx hb (zd_X0_isEnding (24, .iconst 0, 1, 0, []) (List.mem_of_getElem? (i := 13) rfl)) rfl rfl ?_
      refine zp_zret (pc := 25) (n := 0) hx hb hEξ hQξ hU5ξ rfl (by decide) (zd_X0_isEnding (25, .ireturn, 1, 0, []) (List.mem_of_getElem? (i := 14) rfl)) (j := 0) rfl (zp_o0 (by omega) (by omega) (by omega) (by omega)) ?_
      rw [hpsξ]
      refine ⟨rfl, rfl, ?_⟩
      show (0 : Int) = 1 ↔ (0 ≤ p1ξ ∧ p1ξ < 10) ∧ X.2 p1ξ.toNat ≠ -1
      omega
    · refine zp_load (pc := 10) hx hb (zd_X0_isEnding (10, .aload_n 0, 1, 0, []) (List.mem_of_getElem? (i := 5) rfl)) rfl (j := 0) rfl ?_
      refine zp_getf (n := (A 70 : Int)) (pc := 11) hx hb hEξ hwξ (zd_X0_isEnding (11, .getfield 18, 3, 0, []) (List.mem_of_getElem? (i := 6) rfl)) (j := 22) rfl rfl rfl (zM_P hMξ (hYbξ _ (List.mem_of_getElem? (i := 5) rfl))) ((zM_G hMξ (hYbξ _ (List.mem_of_getElem? (i := 5) rfl)) 5).trans (zM_F hMξ (hFbξ _ (List.mem_of_getElem? (i := 46) rfl)))) ?_
      refine zp_load (pc := 14) hx hb (zd_X0_isEnding (14, .iload_n 1, 1, 0, []) (List.mem_of_getElem? (i := 7) rfl)) rfl (j := 1) rfl ?_
      refine zp_iald (j := p1ξ.toNat) (v := (X.2 p1ξ.toNat)) (pc := 15) hx hb hwξ (zd_X0_isEnding (15, .iaload, 1, 0, []) (List.mem_of_getElem? (i := 8) rfl)) (show zp_ia 1 16 = some (10, 0, 0, (-2147483648), 2147483647) from rfl) (zM_P hMξ (hYbξ _ (List.mem_of_getElem? (i := 48) rfl))) (by omega) (by omega) ((zM_G hMξ (hYbξ _ (List.mem_of_getElem? (i := 48) rfl)) (2000 + p1ξ.toNat)).trans (hXξ p1ξ.toNat (by omega)).2) (fun hk569ξ => ?_)
      have hk569bξ := zp_int hk569ξ
      clear hk569ξ
      refine zp_const (pc := 16) hx hb (zd_X0_isEnding (16, .iconst (-1), 1, 0, []) (List.mem_of_getElem? (i := 9) rfl)) rfl rfl ?_
      refine zp_icmp (pc := 17) (tgt := 24) hx hb (zd_X0_isEnding (17, .if_icmp .eq 7, 3, 0, []) (List.mem_of_getElem? (i := 10) rfl)) rfl (fun (hc570ξ : (X.2 p1ξ.toNat) = (-1)) => ?_) (fun (hc570ξ : ¬ ((X.2 p1ξ.toNat) = (-1))) => ?_)
      · refine zp_const (pc := 24) hx hb (zd_X0_isEnding (24, .iconst 0, 1, 0, []) (List.mem_of_getElem? (i := 13) rfl)) rfl rfl ?_
        refine zp_zret (pc := 25) (n := 0) hx hb hEξ hQξ hU5ξ rfl (by decide) (zd_X0_isEnding (25, .ireturn, 1, 0, []) (List.mem_of_getElem? (i := 14) rfl)) (j := 0) rfl (zp_o0 (by omega) (by omega) (by omega) (by omega)) ?_
        rw [hpsξ]
        refine ⟨rfl, rfl, ?_⟩
        show (0 : Int) = 1 ↔ (0 ≤ p1ξ ∧ p1ξ < 10) ∧ X.2 p1ξ.toNat ≠ -1
        omega
      · refine zp_const (pc := 20) hx hb (zd_X0_isEnding (20, .iconst 1, 1, 0, []) (List.mem_of_getElem? (i := 11) rfl)) rfl rfl ?_
        refine zp_goto (tgt := 25) (pc := 21) hx hb (zd_X0_isEnding (21, .goto 4, 3, 0, []) (List.mem_of_getElem? (i := 12) rfl)) rfl ?_
        refine zp_zret (pc := 25) (n := 1) hx hb hEξ hQξ hU5ξ rfl (by decide) (zd_X0_isEnding (25, .ireturn, 1, 0, []) (List.mem_of_getElem? (i := 14) rfl)) (j := 0) rfl (zp_o0 (by omega) (by omega) (by omega) (by omega)) ?_
        rw [hpsξ]
        refine ⟨rfl, rfl, ?_⟩
        show (1 : Int) = 1 ↔ (0 ≤ p1ξ ∧ p1ξ < 10) ∧ X.2 p1ξ.toNat ≠ -1
        omega
noncomputable def zK_isit : zk_K := (zt_mn 135, prog_2_method_11_code, 2, (Option.some Jvm.ClassFile.FieldType.boolean), 1, 0, [(2, 0, 0, 0), (0, 0, (-2147483648), 2147483647)], [(some (0, 0, 0, 1), [])], [], (1, 60, 0, 0))
noncomputable def zφ_isit (A : Nat → Nat) (Y : List (Nat × Nat)) (F : List (Nat × Nat × Nat)) (M : Nat → Nat → Int) (V : Nat → Nat → Int) (X : (Nat → Int) × (Nat → Int)) : (Nat → Option Nat) → (Nat → Nat → Int) → List Int → Prop := fun P G ps => zM A Y F M P G ∧ ps.getD 0 0 = (A 5 : Int) ∧ zMc Y F ∧ (∀ o k, zNc o → M o k = V o k) ∧ M 5 1 = (A 1 : Int) ∧ zDX X M
noncomputable def zψ_isit (A : Nat → Nat) (Y : List (Nat × Nat)) (F : List (Nat × Nat × Nat)) (M : Nat → Nat → Int) (V : Nat → Nat → Int) (X : (Nat → Int) × (Nat → Int)) : (Nat → Option Nat) → (Nat → Nat → Int) → List Int → (Nat → Option Nat) → (Nat → Nat → Int) → Int → Prop := fun P G ps P' G' rn => P' = P ∧ G' = G ∧ (rn = 1 ↔ ((0 ≤ (ps.getD 1 0) ∧ (ps.getD 1 0) < 10) ∧ X.2 (ps.getD 1 0).toNat ≠ -1) ∧ X.2 (ps.getD 1 0).toNat ≤ V 34 (2000 + (ps.getD 1 0).toNat))
theorem zX_isit {l : Launch} {w : zk_W} (hWξ : zh_W w) (A : Nat → Nat) (Y : List (Nat × Nat)) (F : List (Nat × Nat × Nat)) (M : Nat → Nat → Int) (V : Nat → Nat → Int) (X : (Nat → Int) × (Nat → Int)) : zk_metX l w zt_dv zt_TB zK_isit (zp_A (zφ_isit A Y F M V X)) (zp_B (zψ_isit A Y F M V X)) ∧ zk_cok w zt_TB zK_isit := by
  refine zp_methX (cn := "WoundTown$Day") zp_lkallDy hWξ (pl := 1126) rfl (by decide +kernel) (fun p e R s m args below meth c Q u hx hb hEξ hQξ hU5ξ heffξ hnLξ hokξ hφ => ?_)
  have hwξ := hWξ.1
  obtain ⟨p0ξ, p1ξ, hpsξ, tk0, tk1⟩ := zp_ps2 hokξ
  have hrmξ : zk_Kr (zk_ev (zt_types, zp_lkDy, zt_dv, [], [], zp_lcDy, zK_isit)) = zk_Kr zK_isit := rfl
  rw [hpsξ] at hφ ⊢
  have hφ : zM A Y F M u.1 (zp_n u.2.1) ∧ p0ξ = (A 5 : Int) ∧ zMc Y F ∧ (∀ o k, zNc o → M o k = V o k) ∧ M 5 1 = (A 1 : Int) ∧ zDX X M := hφ
  obtain ⟨hMξ, rfl, hYFξ, hVξ, h51ξ, hXξ⟩ := hφ
  have hYF0ξ := hYFξ
  obtain ⟨hYbξ, hFbξ, hFxξ, -⟩ := hYFξ
  have hi1ξ := zp_int tk1
  show zp_J p l e R s m args below meth c Q w u [] 0 [(0, 2, (A 5 : Int)), (1, 0, p1ξ)] [] u.1 (zp_n u.2.1)
  refine zp_load (pc := 0) hx hb (zd_X0_isInTime (0, .aload_n 0, 1, 0, []) (List.mem_of_getElem? (i := 0) rfl)) rfl (j := 0) rfl ?_
  refine zp_load (pc := 1) hx hb (zd_X0_isInTime (1, .iload_n 1, 1, 0, []) (List.mem_of_getElem? (i := 1) rfl)) rfl (j := 1) rfl ?_
  refine zp_call (pc := 2) (how := 0) (idx := 83) (mi := 113) (S := []) hx hb hEξ hwξ heffξ hrmξ (zX_ised hWξ A Y F M V X) rfl (j := 10) rfl rfl (by decide +kernel) (zd_X0_isInTime (2, .invokevirtual 83, 3, 0, []) (List.mem_of_getElem? (i := 2) rfl)) [(A 5 : Int), p1ξ] rfl ⟨zp_o2 (zM_P hMξ (hYbξ _ (List.mem_of_getElem? (i := 5) rfl))), zp_o0 (by omega) (by omega) (by omega) (by omega), trivial⟩ (Nat.le_of_ble_eq_true rfl) ⟨hMξ, rfl, hYF0ξ, hVξ, h51ξ, hXξ⟩ (fun al halξ rne571ξ Pe571 Ge571 hexte571ξ hfre571ξ hoke571ξ hcse571ξ hpsie571ξ => ?_)
  obtain rfl := List.mem_singleton.mp halξ
  have hre571ξ := zp_int (hoke571ξ _ rfl).1
  obtain ⟨hPee571ξ, hGee571ξ, hte571ξ⟩ := hpsie571ξ
  rw [hPee571ξ, hGee571ξ]
  clear hexte571ξ hfre571ξ hcse571ξ hPee571ξ hGee571ξ
  have hte571ξ : rne571ξ = 1 ↔ (0 ≤ p1ξ ∧ p1ξ < 10) ∧ X.2 (p1ξ).toNat ≠ -1 := hte571ξ
  by_cases hq9ξ : rne571ξ = 1
  · have hq8ξ := (Iff.mp hte571ξ) hq9ξ
    refine zp_if (pc := 5) (tgt := 30) hx hb (zd_X0_isInTime (5, .ifCond .eq 25, 3, 0, []) (List.mem_of_getElem? (i := 3) rfl)) rfl (fun (hc572ξ : rne571ξ = 0) => ?_) (fun (hc572ξ : ¬ (rne571ξ = 0)) => ?_)
    · exfalso
      omega
    · refine zp_load (pc := 8) hx hb (zd_X0_isInTime (8, .aload_n 0, 1, 0, []) (List.mem_of_getElem? (i := 4) rfl)) rfl (j := 0) rfl ?_
      refine zp_getf (n := (A 70 : Int)) (pc := 9) hx hb hEξ hwξ (zd_X0_isInTime (9, .getfield 18, 3, 0, []) (List.mem_of_getElem? (i := 5) rfl)) (j := 22) rfl rfl rfl (zM_P hMξ (hYbξ _ (List.mem_of_getElem? (i := 5) rfl))) ((zM_G hMξ (hYbξ _ (List.mem_of_getElem? (i := 5) rfl)) 5).trans (zM_F hMξ (hFbξ _ (List.mem_of_getElem? (i := 46) rfl)))) ?_
      refine zp_load (pc := 12) hx hb (zd_X0_isInTime (12, .iload_n 1, 1, 0, []) (List.mem_of_getElem? (i := 6) rfl)) rfl (j := 1) rfl ?_
      refine zp_iald (j := p1ξ.toNat) (v := (X.2 p1ξ.toNat)) (pc := 13) hx hb hwξ (zd_X0_isInTime (13, .iaload, 1, 0, []) (List.mem_of_getElem? (i := 7) rfl)) (show zp_ia 1 16 = some (10, 0, 0, (-2147483648), 2147483647) from rfl) (zM_P hMξ (hYbξ _ (List.mem_of_getElem? (i := 48) rfl))) (by omega) (by omega) ((zM_G hMξ (hYbξ _ (List.mem_of_getElem? (i := 48) rfl)) (2000 + p1ξ.toNat)).trans (hXξ p1ξ.toNat (by omega)).2) (fun hk573ξ => ?_)
      have hk573bξ := zp_int hk573ξ
      clear hk573ξ
      refine zp_load (pc := 14) hx hb (zd_X0_isInTime (14, .aload_n 0, 1, 0, []) (List.mem_of_getElem? (i := 8) rfl)) rfl (j := 0) rfl ?_
      refine zp_getf (n := (A 1 : Int)) (pc := 15) hx hb hEξ hwξ (zd_X0_isInTime (15, .getfield 25, 3, 0, []) (List.mem_of_getElem? (i := 9) rfl)) (j := 18) rfl rfl rfl (zM_P hMξ (hYbξ _ (List.mem_of_getElem? (i := 5) rfl))) ((zM_G hMξ (hYbξ _ (List.mem_of_getElem? (i := 5) rfl)) 1).trans h51ξ) ?_
      refine zp_getf (n := (A 34 : Int)) (pc := 18) hx hb hEξ hwξ (zd_X0_isInTime (18, .getfield 132, 3, 0, []) (List.mem_of_getElem? (i := 10) rfl)) (j := 8) rfl rfl rfl (zM_P hMξ (hYbξ _ (List.mem_of_getElem? (i := 1) rfl))) ((zM_G hMξ (hYbξ _ (List.mem_of_getElem? (i := 1) rfl)) 6).trans (zM_F hMξ (hFbξ _ (List.mem_of_getElem? (i := 17) rfl)))) ?_
      refine zp_load (pc := 21) hx hb (zd_X0_isInTime (21, .iload_n 1, 1, 0, []) (List.mem_of_getElem? (i := 11) rfl)) rfl (j := 1) rfl ?_
      refine zp_iald (j := p1ξ.toNat) (v := (V 34 (2000 + p1ξ.toNat))) (pc := 22) hx hb hwξ (zd_X0_isInTime (22, .iaload, 1, 0, []) (List.mem_of_getElem? (i := 12) rfl)) (show zp_ia 1 46 = some (10, 0, 0, (-2147483648), 2147483647) from rfl) (zM_P hMξ (hYbξ _ (List.mem_of_getElem? (i := 21) rfl))) (by omega) (by omega) ((zM_G hMξ (hYbξ _ (List.mem_of_getElem? (i := 21) rfl)) (2000 + p1ξ.toNat)).trans (hVξ 34 (2000 + p1ξ.toNat) (by decide))) (fun hk574ξ => ?_)
      have hk574bξ := zp_int hk574ξ
      clear hk574ξ
      refine zp_icmp (pc := 23) (tgt := 30) hx hb (zd_X0_isInTime (23, .if_icmp .gt 7, 3, 0, []) (List.mem_of_getElem? (i := 13) rfl)) rfl (fun (hc575ξ : (V 34 (2000 + p1ξ.toNat)) < (X.2 p1ξ.toNat)) => ?_) (fun (hc575ξ : ¬ ((V 34 (2000 + p1ξ.toNat)) < (X.2 p1ξ.toNat))) => ?_)
      · refine zp_const (pc := 30) hx hb (zd_X0_isInTime (30, .iconst 0, 1, 0, []) (List.mem_of_getElem? (i := 16) rfl)) rfl rfl ?_
        refine zp_zret (pc := 31) (n := 0) hx hb hEξ hQξ hU5ξ rfl (by decide) (zd_X0_isInTime (31, .ireturn, 1, 0, []) (List.mem_of_getElem? (i := 17) rfl)) (j := 0) rfl (zp_o0 (by omega) (by omega) (by omega) (by omega)) ?_
        rw [hpsξ]
        refine ⟨rfl, rfl, ?_⟩
        show (0 : Int) = 1 ↔ ((0 ≤ p1ξ ∧ p1ξ < 10) ∧ X.2 p1ξ.toNat ≠ -1) ∧ X.2 p1ξ.toNat ≤ V 34 (2000 + p1ξ.toNat)
        omega
      · refine zp_const (pc := 26) hx hb (zd_X0_isInTime (26, .iconst 1, 1, 0, []) (List.mem_of_getElem? (i := 14) rfl)) rfl rfl ?_
        refine zp_goto (tgt := 31) (pc := 27) hx hb (zd_X0_isInTime (27, .goto 4, 3, 0, []) (List.mem_of_getElem? (i := 15) rfl)) rfl ?_
        refine zp_zret (pc := 31) (n := 1) hx hb hEξ hQξ hU5ξ rfl (by decide) (zd_X0_isInTime (31, .ireturn, 1, 0, []) (List.mem_of_getElem? (i := 17) rfl)) (j := 0) rfl (zp_o0 (by omega) (by omega) (by omega) (by omega)) ?_
        rw [hpsξ]
        refine ⟨rfl, rfl, ?_⟩
        show (1 : Int) = 1 ↔ ((0 ≤ p1ξ ∧ p1ξ < 10) ∧ X.2 p1ξ.toNat ≠ -1) ∧ X.2 p1ξ.toNat ≤ V 34 (2000 + p1ξ.toNat)
        omega
  · have hq8ξ := fun h9ξ => hq9ξ ((Iff.mpr hte571ξ) h9ξ)
    have hq7ξ : rne571ξ = 0 := by omega
    refine zp_if (pc := 5) (tgt := 30) hx hb (zd_X0_isInTime (5, .ifCond .eq 25, 3, 0, []) (List.mem_of_getElem? (i := 3) rfl)) rfl (fun (hc576ξ : rne571ξ = 0) => ?_) (fun (hc576ξ : ¬ (rne571ξ = 0)) => ?_)
    · refine zp_const (pc := 30) hx hb (zd_X0_isInTime (30, .iconst 0, 1, 0, []) (List.mem_of_getElem? (i := 16) rfl)) rfl rfl ?_
      refine zp_zret (pc := 31) (n := 0) hx hb hEξ hQξ hU5ξ rfl (by decide) (zd_X0_isInTime (31, .ireturn, 1, 0, []) (List.mem_of_getElem? (i := 17) rfl)) (j := 0) rfl (zp_o0 (by omega) (by omega) (by omega) (by omega)) ?_
      rw [hpsξ]
      refine ⟨rfl, rfl, ?_⟩
      show (0 : Int) = 1 ↔ ((0 ≤ p1ξ ∧ p1ξ < 10) ∧ X.2 p1ξ.toNat ≠ -1) ∧ X.2 p1ξ.toNat ≤ V 34 (2000 + p1ξ.toNat)
      omega
    · exfalso
      omega
noncomputable def zK_rns2 : zk_K := (zt_mn 104, prog_2_method_4_code, 5, (Option.some Jvm.ClassFile.FieldType.int), 1, 0, [(2, 0, 0, 0), (2, 10, 0, 0), (2, 2, 0, 0)], [(some (0, 0, (-2147483648), 2147483647), [])], zUC, (5, 300, 0, 0))
noncomputable def zφ_rns2 (A : Nat → Nat) (Y : List (Nat × Nat)) (F : List (Nat × Nat × Nat)) (V : Nat → Nat → Int) (n1ξ npξ : Nat) (t0ξ : Int) (Lwξ : List yK) : (Nat → Option Nat) → (Nat → Nat → Int) → List Int → Prop := fun P G ps => zMVc A Y F V P G ∧ ps.getD 0 0 = (A 5 : Int) ∧ zMc Y F ∧ (ps.getD 1 0) = (A 1 : Int) ∧ (ps.getD 2 0) = (A 2 : Int) ∧ V 2 5 = t0ξ ∧ zLF A Y F V Lwξ ∧ zc_ok V 2 50 n1ξ npξ ∧ 0 ≤ t0ξ ∧ t0ξ ≤ 12 ∧ (0 ≤ V 2 6 ∧ V 2 6 ≤ 9999) ∧ ∀ j, j < 6 → 0 ≤ V 50 (2000 + j) ∧ V 50 (2000 + j) ≤ 9
noncomputable def zψ_rns2 (A : Nat → Nat) (Y : List (Nat × Nat)) (F : List (Nat × Nat × Nat)) (V : Nat → Nat → Int) (n1ξ npξ : Nat) (t0ξ : Int) (Lwξ : List yK) : (Nat → Option Nat) → (Nat → Nat → Int) → List Int → (Nat → Option Nat) → (Nat → Nat → Int) → Int → Prop := fun P G ps P' G' rn => P' = P ∧ zMVc A Y F ((zf_slp2 (zc_put V 52 (zd_hr (zRc V 2 50) n1ξ npξ (zd_sp (zRc V 2 50) Lwξ t0ξ) (zd_ru (zRc V 2 50) Lwξ t0ξ) t0ξ 24))).2) P' G' ∧ rn = zc_ct (zd_hr (zRc V 2 50) n1ξ npξ (zd_sp (zRc V 2 50) Lwξ t0ξ) (zd_ru (zRc V 2 50) Lwξ t0ξ) t0ξ 24) n1ξ
theorem zX_rns2 {l : Launch} {w : zk_W} (hWξ : zh_W w) (A : Nat → Nat) (Y : List (Nat × Nat)) (F : List (Nat × Nat × Nat)) (V : Nat → Nat → Int) (n1ξ npξ : Nat) (t0ξ : Int) (Lwξ : List yK) : zk_metX l w zt_dv zt_TB zK_rns2 (zp_A (zφ_rns2 A Y F V n1ξ npξ t0ξ Lwξ)) (zp_B (zψ_rns2 A Y F V n1ξ npξ t0ξ Lwξ)) ∧ zk_cok w zt_TB zK_rns2 := by
  refine zp_methX (cn := "WoundTown$Day") zp_lkallDy hWξ (pl := 993) rfl (by decide +kernel) (fun p e R s m args below meth c Q u hx hb hEξ hQξ hU5ξ heffξ hnLξ hokξ hφ => ?_)
  have hwξ := hWξ.1
  obtain ⟨p0ξ, p1ξ, p2ξ, hpsξ, tk0, tk1, tk2⟩ := zp_ps3 hokξ
  have hrmξ : zk_Kr (zk_ev (zt_types, zp_lkDy, zt_dv, [], [], zp_lcDy, zK_rns2)) = zk_Kr zK_rns2 := rfl
  rw [hpsξ] at hφ ⊢
  have hφ : zMVc A Y F V u.1 (zp_n u.2.1) ∧ p0ξ = (A 5 : Int) ∧ zMc Y F ∧ p1ξ = (A 1 : Int) ∧ p2ξ = (A 2 : Int) ∧ V 2 5 = t0ξ ∧ zLF A Y F V Lwξ ∧ zc_ok V 2 50 n1ξ npξ ∧ 0 ≤ t0ξ ∧ t0ξ ≤ 12 ∧ (0 ≤ V 2 6 ∧ V 2 6 ≤ 9999) ∧ ∀ j, j < 6 → 0 ≤ V 50 (2000 + j) ∧ V 50 (2000 + j) ≤ 9 := hφ
  obtain ⟨⟨M, hMξ, hVξ, hSbξ⟩, rfl, hYFξ, rfl, rfl, ht5ξ, hlwξ, hokξ, ht0ξ, ht12ξ, ⟨hdy0ξ, hdy1ξ⟩, hoiξ⟩ := hφ
  have hYF0ξ := hYFξ
  obtain ⟨hYbξ, hFbξ, hFxξ, -⟩ := hYFξ
  show zp_J p l e R s m args below meth c Q w u [] 0 [(0, 2, (A 5 : Int)), (1, 2, (A 1 : Int)), (2, 2, (A 2 : Int))] [] u.1 (zp_n u.2.1)
  obtain ⟨hn10ξ, hnp6ξ, hn1ξ, hnpξ, hDwξ, hDpξ⟩ := hokξ.1
  have hn1ξ : V 1 3 = (n1ξ : Int) := hn1ξ
  have hnpξ : V 1 1 = (npξ : Int) := hnpξ
  refine zp_load (pc := 0) hx hb (zd_X0_runs (0, .aload_n 0, 1, 0, []) (List.mem_of_getElem? (i := 0) rfl)) rfl (j := 0) rfl ?_
  refine zp_load (pc := 1) hx hb (zd_X0_runs (1, .aload_n 1, 1, 0, []) (List.mem_of_getElem? (i := 1) rfl)) rfl (j := 1) rfl ?_
  refine zp_load (pc := 2) hx hb (zd_X0_runs (2, .aload_n 2, 1, 0, []) (List.mem_of_getElem? (i := 2) rfl)) rfl (j := 2) rfl ?_
  refine zp_load (pc := 3) hx hb (zd_X0_runs (3, .aload_n 2, 1, 0, []) (List.mem_of_getElem? (i := 3) rfl)) rfl (j := 2) rfl ?_
  refine zp_getf (n := t0ξ) (pc := 4) hx hb hEξ hwξ (zd_X0_runs (4, .getfield 73, 3, 0, []) (List.mem_of_getElem? (i := 4) rfl)) (j := 3) rfl rfl rfl (zM_P hMξ (hYbξ _ (List.mem_of_getElem? (i := 2) rfl))) (((zM_G hMξ (hYbξ _ (List.mem_of_getElem? (i := 2) rfl)) 5).trans (hVξ 2 5 (by decide))).trans ht5ξ) ?_
  refine zp_call (pc := 7) (how := 0) (idx := 66) (mi := 105) (S := []) hx hb hEξ hwξ heffξ hrmξ (zX_beg2 hWξ A Y F V n1ξ npξ t0ξ Lwξ) rfl (j := 0) rfl rfl (by decide +kernel) (zd_X0_runs (7, .invokevirtual 66, 3, 0, []) (List.mem_of_getElem? (i := 5) rfl)) [(A 5 : Int), (A 1 : Int), (A 2 : Int), t0ξ] rfl ⟨zp_o2 (zM_P hMξ (hYbξ _ (List.mem_of_getElem? (i := 5) rfl))), zp_o2 (zM_P hMξ (hYbξ _ (List.mem_of_getElem? (i := 1) rfl))), zp_o2 (zM_P hMξ (hYbξ _ (List.mem_of_getElem? (i := 2) rfl))), zp_o0 (by omega) (by omega) (by omega) (by omega), trivial⟩ (Nat.le_of_ble_eq_true rfl) ⟨⟨M, hMξ, hVξ, trivial⟩, rfl, hYF0ξ, rfl, rfl, rfl, hlwξ, hokξ, ht0ξ, ht12ξ⟩ (fun al halξ rnbg Pbg Gbg hextbgξ hfrbgξ hokbgξ hcsbgξ hpsibgξ => ?_)
  obtain rfl := List.mem_singleton.mp halξ
  obtain ⟨hPebgξ, Mbg, hMbgξ, hVbgξ, hDsbgξ⟩ := hpsibgξ
  subst hPebgξ
  clear hextbgξ hfrbgξ hokbgξ hcsbgξ
  refine zp_const (pc := 10) hx hb (zd_X0_runs (10, .iconst 0, 1, 0, []) (List.mem_of_getElem? (i := 6) rfl)) rfl rfl ?_
  refine zp_store (L' := [(3, 0, 0), (0, 2, (A 5 : Int)), (1, 2, (A 1 : Int)), (2, 2, (A 2 : Int))]) (pc := 11) hx hb hnLξ (zd_X0_runs (11, .istore_n 3, 1, 0, []) (List.mem_of_getElem? (i := 7) rfl)) rfl rfl rfl ?_
  have loop : ∀ (r9ξ h9ξ : Nat) (M : Nat → Nat → Int) (G : Nat → Nat → Int), r9ξ + h9ξ = 24 → zM A Y F M u.1 G → (∀ o k, zNc o → M o k = V o k) → zDst A Y F V Lwξ 2 50 t0ξ (zd_hr (zRc V 2 50) n1ξ npξ (zd_sp (zRc V 2 50) Lwξ t0ξ) (zd_ru (zRc V 2 50) Lwξ t0ξ) t0ξ h9ξ) M → zp_J p l e R s m args below meth c Q w u [] 12 [(3, 0, (h9ξ : Int)), (0, 2, (A 5 : Int)), (1, 2, (A 1 : Int)), (2, 2, (A 2 : Int))] [] u.1 G := by
    intro r9ξ
    induction r9ξ with
    | zero =>
      intro h9ξ M G hrξ hMξ hVξ hDsξ
      obtain ⟨X, hXeξ⟩ : ∃ X, X = zd_hr (zRc V 2 50) n1ξ npξ (zd_sp (zRc V 2 50) Lwξ t0ξ) (zd_ru (zRc V 2 50) Lwξ t0ξ) t0ξ h9ξ := ⟨_, rfl⟩
      rw [← hXeξ] at hDsξ
      obtain ⟨hAbξ, ⟨h51ξ, h52ξ⟩, hpwξ, hXξ⟩ := hDsξ
      refine zp_load (pc := 12) hx hb (zd_X0_runs (12, .iload_n 3, 1, 0, []) (List.mem_of_getElem? (i := 8) rfl)) rfl (j := 0) rfl ?_
      refine zp_const (pc := 13) hx hb (zd_X0_runs (13, .bipush 24, 2, 0, []) (List.mem_of_getElem? (i := 9) rfl)) rfl rfl ?_
      refine zp_icmp (pc := 15) (tgt := 29) hx hb (zd_X0_runs (15, .if_icmp .ge 14, 3, 0, []) (List.mem_of_getElem? (i := 10) rfl)) rfl (fun (hc577ξ : 24 ≤ (h9ξ : Int)) => ?_) (fun (hc577ξ : ¬ (24 ≤ (h9ξ : Int))) => ?_)
      · refine zp_load (pc := 29) hx hb (zd_X0_runs (29, .aload_n 0, 1, 0, []) (List.mem_of_getElem? (i := 16) rfl)) rfl (j := 1) rfl ?_
        refine zp_getf (n := (A 69 : Int)) (pc := 30) hx hb hEξ hwξ (zd_X0_runs (30, .getfield 15, 3, 0, []) (List.mem_of_getElem? (i := 17) rfl)) (j := 21) rfl rfl rfl (zM_P hMξ (hYbξ _ (List.mem_of_getElem? (i := 5) rfl))) ((zM_G hMξ (hYbξ _ (List.mem_of_getElem? (i := 5) rfl)) 4).trans (zM_F hMξ (hFbξ _ (List.mem_of_getElem? (i := 45) rfl)))) ?_
        refine zp_const (pc := 33) hx hb (zd_X0_runs (33, .iconst 0, 1, 0, []) (List.mem_of_getElem? (i := 18) rfl)) rfl rfl ?_
        refine zp_load (pc := 34) hx hb (zd_X0_runs (34, .aload_n 2, 1, 0, []) (List.mem_of_getElem? (i := 19) rfl)) rfl (j := 3) rfl ?_
        refine zp_getf (n := (A 52 : Int)) (pc := 35) hx hb hEξ hwξ (zd_X0_runs (35, .getfield 51, 3, 0, []) (List.mem_of_getElem? (i := 20) rfl)) (j := 2) rfl rfl rfl (zM_P hMξ (hYbξ _ (List.mem_of_getElem? (i := 2) rfl))) ((zM_G hMξ (hYbξ _ (List.mem_of_getElem? (i := 2) rfl)) 2).trans (zM_F hMξ (hFbξ _ (List.mem_of_getElem? (i := 27) rfl)))) ?_
        refine zp_const (pc := 38) hx hb (zd_X0_runs (38, .iconst 0, 1, 0, []) (List.mem_of_getElem? (i := 21) rfl)) rfl rfl ?_
        refine zp_const (pc := 39) hx hb (zd_X0_runs (39, .bipush 10, 2, 0, []) (List.mem_of_getElem? (i := 22) rfl)) rfl rfl ?_
        refine zp_copyO (n := 10) (i0 := 0) (i1 := 0) (pc := 41) (idx := 54) (T0 := zt_types.getD 15 (0, 0, 0, [])) (T := zt_types.getD 19 (0, 0, 0, [])) hx hb hEξ hwξ heffξ hrmξ (zd_X0_runs (41, .invokestatic 54, 3, 0, []) (List.mem_of_getElem? (i := 23) rfl)) (j := 24) rfl rfl rfl rfl rfl (zM_P hMξ (hYbξ _ (List.mem_of_getElem? (i := 47) rfl))) (zM_P hMξ (hYbξ _ (List.mem_of_getElem? (i := 30) rfl))) rfl (by omega) (by omega) (show 0 + 10 ≤ 10 by omega) (show 0 + 10 ≤ 10 by omega) (by omega) (fun j hjξ v h => h) ⟨by decide, by decide⟩ (by decide) (Or.inr ⟨by decide, by decide⟩) rfl ?_
        have hMy578ξ : zM A Y F (zc_cp M 69 0 52 0 10) u.1 (zp_cpo G (A 69) 0 (A 52) 0 10) := zM_cp hMξ (hYbξ _ (List.mem_of_getElem? (i := 47) rfl)) (hYbξ _ (List.mem_of_getElem? (i := 30) rfl))
        have hVy578ξ := zc_putV (o := 52) hVξ hXξ
        obtain ⟨Gy578, hGy578ξ⟩ : ∃ G9ξ, G9ξ = zp_cpo G (A 69) 0 (A 52) 0 10 := ⟨_, rfl⟩
        rw [← hGy578ξ] at hMy578ξ ⊢
        refine zp_load (pc := 44) hx hb (zd_X0_runs (44, .aload_n 2, 1, 0, []) (List.mem_of_getElem? (i := 24) rfl)) rfl (j := 3) rfl ?_
        refine zp_call (pc := 45) (how := 0) (idx := 77) (mi := 112) (S := []) hx hb hEξ hwξ heffξ hrmξ (zX_slp2 hWξ A Y F (zc_put V 52 X)) rfl (j := 9) rfl rfl (by decide +kernel) (zd_X0_runs (45, .invokevirtual 77, 3, 0, []) (List.mem_of_getElem? (i := 25) rfl)) [(A 2 : Int)] rfl ⟨zp_o2 (zM_P hMy578ξ (hYbξ _ (List.mem_of_getElem? (i := 2) rfl))), trivial⟩ (Nat.le_of_ble_eq_true rfl) ⟨⟨(zc_cp M 69 0 52 0 10), hMy578ξ, hVy578ξ, trivial⟩, rfl, hYF0ξ, (by rw [zc_put_o (by decide)]; exact hdy0ξ), (by rw [zc_put_o (by decide)]; exact hdy1ξ), (fun j hjξ => by rw [zc_put_o (by decide)]; exact hoiξ j hjξ)⟩ (fun al halξ rnsl Psl Gsl hextslξ hfrslξ hokslξ hcsslξ hpsislξ => ?_)
        obtain rfl := List.mem_singleton.mp halξ
        obtain ⟨hPeslξ, Msl, hMslξ, hVslξ, -⟩ := hpsislξ
        have k70 : ∀ k, Msl 70 k = M 70 k := fun k => (zp_ncc hfrslξ hMy578ξ hMslξ (hYbξ _ (List.mem_of_getElem? (i := 48) rfl)) (by decide +kernel) k).trans (zc_cp_o (by decide))
        have k69 : ∀ k, Msl 69 k = M 69 k := fun k => (zp_ncc hfrslξ hMy578ξ hMslξ (hYbξ _ (List.mem_of_getElem? (i := 47) rfl)) (by decide +kernel) k).trans (zc_cp_o (by decide))
        have k5 : ∀ k, Msl 5 k = M 5 k := fun k => (zp_ncc hfrslξ hMy578ξ hMslξ (hYbξ _ (List.mem_of_getElem? (i := 5) rfl)) (by decide +kernel) k).trans (zc_cp_o (by decide))
        subst hPeslξ
        clear hextslξ hfrslξ hokslξ hcsslξ
        have hX9ξ : zDX X Msl := fun w hwξ => ⟨(k69 _).trans (hXξ w hwξ).1, (k70 _).trans (hXξ w hwξ).2⟩
        have h519ξ : Msl 5 1 = (A 1 : Int) := (k5 1).trans h51ξ
        have hn19ξ : (zf_slp2 (zc_put V 52 X)).2 1 3 = (n1ξ : Int) := (zf_slp2_f (by decide)).trans ((zc_put_o (by decide)).trans hn1ξ)
        refine zp_const (pc := 48) hx hb (zd_X0_runs (48, .iconst 0, 1, 0, []) (List.mem_of_getElem? (i := 26) rfl)) rfl rfl ?_
        refine zp_store (L' := [(3, 0, 0), (0, 2, (A 5 : Int)), (1, 2, (A 1 : Int)), (2, 2, (A 2 : Int))]) (pc := 49) hx hb hnLξ (zd_X0_runs (49, .istore_n 3, 1, 0, []) (List.mem_of_getElem? (i := 27) rfl)) rfl rfl rfl ?_
        refine zp_const (pc := 50) hx hb (zd_X0_runs (50, .iconst 0, 1, 0, []) (List.mem_of_getElem? (i := 28) rfl)) rfl rfl ?_
        refine zp_store (L' := [(4, 0, 0), (3, 0, 0), (0, 2, (A 5 : Int)), (1, 2, (A 1 : Int)), (2, 2, (A 2 : Int))]) (pc := 51) hx hb hnLξ (zd_X0_runs (51, .istore 4, 2, 0, []) (List.mem_of_getElem? (i := 29) rfl)) rfl rfl rfl ?_
        have loopc : ∀ (k9ξ w9ξ : Nat), k9ξ + w9ξ = n1ξ → zp_J p l e R s m args below meth c Q w u [] 53 [(4, 0, (w9ξ : Int)), (3, 0, (zc_ct X w9ξ)), (0, 2, (A 5 : Int)), (1, 2, (A 1 : Int)), (2, 2, (A 2 : Int))] [] u.1 Gsl := by
          intro k9ξ
          induction k9ξ with
          | zero =>
            intro w9ξ hkξ
            have hcbξ := zc_ctb (X := X) (w := w9ξ)
            refine zp_load (pc := 53) hx hb (zd_X0_runs (53, .iload 4, 2, 0, []) (List.mem_of_getElem? (i := 30) rfl)) rfl (j := 0) rfl ?_
            refine zp_load (pc := 55) hx hb (zd_X0_runs (55, .aload_n 0, 1, 0, []) (List.mem_of_getElem? (i := 31) rfl)) rfl (j := 2) rfl ?_
            refine zp_getf (n := (A 1 : Int)) (pc := 56) hx hb hEξ hwξ (zd_X0_runs (56, .getfield 25, 3, 0, []) (List.mem_of_getElem? (i := 32) rfl)) (j := 18) rfl rfl rfl (zM_P hMslξ (hYbξ _ (List.mem_of_getElem? (i := 5) rfl))) ((zM_G hMslξ (hYbξ _ (List.mem_of_getElem? (i := 5) rfl)) 1).trans h519ξ) ?_
            refine zp_getf (n := (n1ξ : Int)) (pc := 59) hx hb hEξ hwξ (zd_X0_runs (59, .getfield 80, 3, 0, []) (List.mem_of_getElem? (i := 33) rfl)) (j := 5) rfl rfl rfl (zM_P hMslξ (hYbξ _ (List.mem_of_getElem? (i := 1) rfl))) (((zM_G hMslξ (hYbξ _ (List.mem_of_getElem? (i := 1) rfl)) 3).trans (hVslξ 1 3 (by decide))).trans hn19ξ) ?_
            refine zp_icmp (pc := 62) (tgt := 83) hx hb (zd_X0_runs (62, .if_icmp .ge 21, 3, 0, []) (List.mem_of_getElem? (i := 34) rfl)) rfl (fun (hc579ξ : (n1ξ : Int) ≤ (w9ξ : Int)) => ?_) (fun (hc579ξ : ¬ ((n1ξ : Int) ≤ (w9ξ : Int))) => ?_)
            · refine zp_load (pc := 83) hx hb (zd_X0_runs (83, .iload_n 3, 1, 0, []) (List.mem_of_getElem? (i := 42) rfl)) rfl (j := 1) rfl ?_
              obtain rfl : w9ξ = n1ξ := by omega
              obtain rfl : h9ξ = 24 := by omega
              refine zp_iret (pc := 84) (n := (zc_ct X w9ξ)) hx hb hEξ hQξ hU5ξ rfl (by decide) (zd_X0_runs (84, .ireturn, 1, 0, []) (List.mem_of_getElem? (i := 43) rfl)) (j := 0) rfl (zp_o0 (by omega) (by omega) (by omega) (by omega)) ?_
              rw [hpsξ]
              refine ⟨rfl, ?_⟩
              show zMVc A Y F ((zf_slp2 (zc_put V 52 (zd_hr (zRc V 2 50) w9ξ npξ (zd_sp (zRc V 2 50) Lwξ t0ξ) (zd_ru (zRc V 2 50) Lwξ t0ξ) t0ξ 24))).2) u.1 Gsl ∧ zc_ct X w9ξ = zc_ct (zd_hr (zRc V 2 50) w9ξ npξ (zd_sp (zRc V 2 50) Lwξ t0ξ) (zd_ru (zRc V 2 50) Lwξ t0ξ) t0ξ 24) w9ξ
              rw [← hXeξ]
              exact ⟨⟨Msl, hMslξ, hVslξ, trivial⟩, rfl⟩
            · exfalso
              omega
          | succ k9ξ ihc =>
            intro w9ξ hkξ
            have hcbξ := zc_ctb (X := X) (w := w9ξ)
            refine zp_load (pc := 53) hx hb (zd_X0_runs (53, .iload 4, 2, 0, []) (List.mem_of_getElem? (i := 30) rfl)) rfl (j := 0) rfl ?_
            refine zp_load (pc := 55) hx hb (zd_X0_runs (55, .aload_n 0, 1, 0, []) (List.mem_of_getElem? (i := 31) rfl)) rfl (j := 2) rfl ?_
            refine zp_getf (n := (A 1 : Int)) (pc := 56) hx hb hEξ hwξ (zd_X0_runs (56, .getfield 25, 3, 0, []) (List.mem_of_getElem? (i := 32) rfl)) (j := 18) rfl rfl rfl (zM_P hMslξ (hYbξ _ (List.mem_of_getElem? (i := 5) rfl))) ((zM_G hMslξ (hYbξ _ (List.mem_of_getElem? (i := 5) rfl)) 1).trans h519ξ) ?_
            refine zp_getf (n := (n1ξ : Int)) (pc := 59) hx hb hEξ hwξ (zd_X0_runs (59, .getfield 80, 3, 0, []) (List.mem_of_getElem? (i := 33) rfl)) (j := 5) rfl rfl rfl (zM_P hMslξ (hYbξ _ (List.mem_of_getElem? (i := 1) rfl))) (((zM_G hMslξ (hYbξ _ (List.mem_of_getElem? (i := 1) rfl)) 3).trans (hVslξ 1 3 (by decide))).trans hn19ξ) ?_
            refine zp_icmp (pc := 62) (tgt := 83) hx hb (zd_X0_runs (62, .if_icmp .ge 21, 3, 0, []) (List.mem_of_getElem? (i := 34) rfl)) rfl (fun (hc580ξ : (n1ξ : Int) ≤ (w9ξ : Int)) => ?_) (fun (hc580ξ : ¬ ((n1ξ : Int) ≤ (w9ξ : Int))) => ?_)
            · exfalso
              omega
            · refine zp_load (pc := 65) hx hb (zd_X0_runs (65, .aload_n 0, 1, 0, []) (List.mem_of_getElem? (i := 35) rfl)) rfl (j := 2) rfl ?_
              refine zp_load (pc := 66) hx hb (zd_X0_runs (66, .iload 4, 2, 0, []) (List.mem_of_getElem? (i := 36) rfl)) rfl (j := 0) rfl ?_
              refine zp_call (pc := 68) (how := 0) (idx := 83) (mi := 113) (S := []) hx hb hEξ hwξ heffξ hrmξ (zX_ised hWξ A Y F Msl (zf_slp2 (zc_put V 52 X)).2 X) rfl (j := 10) rfl rfl (by decide +kernel) (zd_X0_runs (68, .invokevirtual 83, 3, 0, []) (List.mem_of_getElem? (i := 37) rfl)) [(A 5 : Int), (w9ξ : Int)] rfl ⟨zp_o2 (zM_P hMslξ (hYbξ _ (List.mem_of_getElem? (i := 5) rfl))), zp_o0 (by omega) (by omega) (by omega) (by omega), trivial⟩ (Nat.le_of_ble_eq_true rfl) ⟨hMslξ, rfl, hYF0ξ, hVslξ, h519ξ, hX9ξ⟩ (fun al halξ rne581ξ Pe581 Ge581 hexte581ξ hfre581ξ hoke581ξ hcse581ξ hpsie581ξ => ?_)
              obtain rfl := List.mem_singleton.mp halξ
              have hre581ξ := zp_int (hoke581ξ _ rfl).1
              obtain ⟨hPee581ξ, hGee581ξ, hte581ξ⟩ := hpsie581ξ
              rw [hPee581ξ, hGee581ξ]
              clear hexte581ξ hfre581ξ hcse581ξ hPee581ξ hGee581ξ
              have hte581ξ : rne581ξ = 1 ↔ (0 ≤ (w9ξ : Int) ∧ (w9ξ : Int) < 10) ∧ X.2 ((w9ξ : Int)).toNat ≠ -1 := hte581ξ
              rw [show ((w9ξ : Int) : Int).toNat = w9ξ by omega] at hte581ξ
              refine zp_if (pc := 71) (tgt := 77) hx hb (zd_X0_runs (71, .ifCond .eq 6, 3, 0, []) (List.mem_of_getElem? (i := 38) rfl)) rfl (fun (hc582ξ : rne581ξ = 0) => ?_) (fun (hc582ξ : ¬ (rne581ξ = 0)) => ?_)
              · refine zp_iinc (L' := [(4, 0, ((w9ξ : Int) + 1)), (3, 0, (zc_ct X w9ξ)), (0, 2, (A 5 : Int)), (1, 2, (A 1 : Int)), (2, 2, (A 2 : Int))]) (n := ((w9ξ : Int) + 1)) (pc := 77) hx hb hnLξ (zd_X0_runs (77, .iinc 4 1, 3, 0, []) (List.mem_of_getElem? (i := 40) rfl)) (j := 0) rfl (by omega) (zp_r0 (by omega) (by omega)) rfl rfl ?_
                refine zp_goto (tgt := 53) (pc := 80) hx hb (zd_X0_runs (80, .goto (-27), 3, 0, []) (List.mem_of_getElem? (i := 41) rfl)) rfl ?_
                have hctξ : (zc_ct X w9ξ) = zc_ct X (w9ξ + 1) := by
                  rw [zc_ct]
                  by_cases e9ξ : X.2 w9ξ = -1
                  · rw [if_pos e9ξ]
                    all_goals omega
                  · rw [if_neg e9ξ]
                    all_goals omega
                rw [hctξ]
                refine zp_drop (L' := [(4, 0, ((w9ξ : Int) + 1)), (3, 0, (zc_ct X (w9ξ + 1))), (0, 2, (A 5 : Int)), (1, 2, (A 1 : Int)), (2, 2, (A 2 : Int))]) (by simp) ?_
                exact ihc (w9ξ + 1) (by omega)
              · refine zp_iinc (L' := [(3, 0, ((zc_ct X w9ξ) + 1)), (4, 0, (w9ξ : Int)), (0, 2, (A 5 : Int)), (1, 2, (A 1 : Int)), (2, 2, (A 2 : Int))]) (n := ((zc_ct X w9ξ) + 1)) (pc := 74) hx hb hnLξ (zd_X0_runs (74, .iinc 3 1, 3, 0, []) (List.mem_of_getElem? (i := 39) rfl)) (j := 1) rfl (by omega) (zp_r0 (by omega) (by omega)) rfl rfl ?_
                refine zp_iinc (L' := [(4, 0, ((w9ξ : Int) + 1)), (3, 0, ((zc_ct X w9ξ) + 1)), (0, 2, (A 5 : Int)), (1, 2, (A 1 : Int)), (2, 2, (A 2 : Int))]) (n := ((w9ξ : Int) + 1)) (pc := 77) hx hb hnLξ (zd_X0_runs (77, .iinc 4 1, 3, 0, []) (List.mem_of_getElem? (i := 40) rfl)) (j := 1) rfl (by omega) (zp_r0 (by omega) (by omega)) rfl rfl ?_
                refine zp_goto (tgt := 53) (pc := 80) hx hb (zd_X0_runs (80, .goto (-27), 3, 0, []) (List.mem_of_getElem? (i := 41) rfl)) rfl ?_
                have hctξ : ((zc_ct X w9ξ) + 1) = zc_ct X (w9ξ + 1) := by
                  rw [zc_ct]
                  by_cases e9ξ : X.2 w9ξ = -1
                  · rw [if_pos e9ξ]
                    all_goals omega
                  · rw [if_neg e9ξ]
                    all_goals omega
                rw [hctξ]
                refine zp_drop (L' := [(4, 0, ((w9ξ : Int) + 1)), (3, 0, (zc_ct X (w9ξ + 1))), (0, 2, (A 5 : Int)), (1, 2, (A 1 : Int)), (2, 2, (A 2 : Int))]) (by simp) ?_
                exact ihc (w9ξ + 1) (by omega)
        refine zp_drop (L' := [(4, 0, 0), (3, 0, 0), (0, 2, (A 5 : Int)), (1, 2, (A 1 : Int)), (2, 2, (A 2 : Int))]) (by simp) ?_
        exact loopc n1ξ 0 (by omega)
      · exfalso
        omega
    | succ r9ξ ih =>
      intro h9ξ M G hrξ hMξ hVξ hDsξ
      refine zp_load (pc := 12) hx hb (zd_X0_runs (12, .iload_n 3, 1, 0, []) (List.mem_of_getElem? (i := 8) rfl)) rfl (j := 0) rfl ?_
      refine zp_const (pc := 13) hx hb (zd_X0_runs (13, .bipush 24, 2, 0, []) (List.mem_of_getElem? (i := 9) rfl)) rfl rfl ?_
      refine zp_icmp (pc := 15) (tgt := 29) hx hb (zd_X0_runs (15, .if_icmp .ge 14, 3, 0, []) (List.mem_of_getElem? (i := 10) rfl)) rfl (fun (hc583ξ : 24 ≤ (h9ξ : Int)) => ?_) (fun (hc583ξ : ¬ (24 ≤ (h9ξ : Int))) => ?_)
      · exfalso
        omega
      · refine zp_load (pc := 18) hx hb (zd_X0_runs (18, .aload_n 0, 1, 0, []) (List.mem_of_getElem? (i := 11) rfl)) rfl (j := 1) rfl ?_
        refine zp_load (pc := 19) hx hb (zd_X0_runs (19, .iload_n 3, 1, 0, []) (List.mem_of_getElem? (i := 12) rfl)) rfl (j := 0) rfl ?_
        refine zp_call (pc := 20) (how := 0) (idx := 69) (mi := 108) (S := []) hx hb hEξ hwξ heffξ hrmξ (zX_psh2 hWξ A Y F M V n1ξ npξ t0ξ Lwξ h9ξ) rfl (j := 4) rfl rfl (by decide +kernel) (zd_X0_runs (20, .invokevirtual 69, 3, 0, []) (List.mem_of_getElem? (i := 13) rfl)) [(A 5 : Int), (h9ξ : Int)] rfl ⟨zp_o2 (zM_P hMξ (hYbξ _ (List.mem_of_getElem? (i := 5) rfl))), zp_o0 (by omega) (by omega) (by omega) (by omega), trivial⟩ (Nat.le_of_ble_eq_true rfl) ⟨hMξ, rfl, hYF0ξ, hVξ, hDsξ, rfl, by omega, hokξ, ht0ξ, ht12ξ⟩ (fun al halξ rnps Pps Gps hextpsξ hfrpsξ hokpsξ hcspsξ hpsipsξ => ?_)
        obtain rfl := List.mem_singleton.mp halξ
        obtain ⟨hPepsξ, Mps, hMpsξ, hVpsξ, hDspsξ⟩ := hpsipsξ
        subst hPepsξ
        clear hextpsξ hfrpsξ hokpsξ hcspsξ
        refine zp_iinc (L' := [(3, 0, ((h9ξ : Int) + 1)), (0, 2, (A 5 : Int)), (1, 2, (A 1 : Int)), (2, 2, (A 2 : Int))]) (n := ((h9ξ : Int) + 1)) (pc := 23) hx hb hnLξ (zd_X0_runs (23, .iinc 3 1, 3, 0, []) (List.mem_of_getElem? (i := 14) rfl)) (j := 0) rfl (by omega) (zp_r0 (by omega) (by omega)) rfl rfl ?_
        refine zp_goto (tgt := 12) (pc := 26) hx hb (zd_X0_runs (26, .goto (-14), 3, 0, []) (List.mem_of_getElem? (i := 15) rfl)) rfl ?_
        refine zp_drop (L' := [(3, 0, ((h9ξ : Int) + 1)), (0, 2, (A 5 : Int)), (1, 2, (A 1 : Int)), (2, 2, (A 2 : Int))]) (by simp) ?_
        exact ih (h9ξ + 1) Mps Gps (by omega) hMpsξ hVpsξ hDspsξ
  exact loop 24 0 Mbg Gbg (by omega) hMbgξ hVbgξ hDsbgξ
noncomputable def zK_rns7 : zk_K := (zt_mn 104, prog_2_method_4_code, 5, (Option.some Jvm.ClassFile.FieldType.int), 1, 0, [(2, 0, 0, 0), (2, 10, 0, 0), (2, 2, 0, 0)], [(some (0, 0, (-2147483648), 2147483647), [])], zUC, (5, 300, 0, 0))
noncomputable def zφ_rns7 (A : Nat → Nat) (Y : List (Nat × Nat)) (F : List (Nat × Nat × Nat)) (V : Nat → Nat → Int) (n1ξ npξ : Nat) (t0ξ : Int) (Lwξ : List yK) : (Nat → Option Nat) → (Nat → Nat → Int) → List Int → Prop := fun P G ps => zMVc A Y F V P G ∧ ps.getD 0 0 = (A 5 : Int) ∧ zMc Y F ∧ (ps.getD 1 0) = (A 1 : Int) ∧ (ps.getD 2 0) = (A 7 : Int) ∧ V 7 5 = t0ξ ∧ zLF A Y F V Lwξ ∧ zc_ok V 7 53 n1ξ npξ ∧ 0 ≤ t0ξ ∧ t0ξ ≤ 12 ∧ (0 ≤ V 7 6 ∧ V 7 6 ≤ 9999) ∧ ∀ j, j < 6 → 0 ≤ V 53 (2000 + j) ∧ V 53 (2000 + j) ≤ 9
noncomputable def zψ_rns7 (A : Nat → Nat) (Y : List (Nat × Nat)) (F : List (Nat × Nat × Nat)) (V : Nat → Nat → Int) (n1ξ npξ : Nat) (t0ξ : Int) (Lwξ : List yK) : (Nat → Option Nat) → (Nat → Nat → Int) → List Int → (Nat → Option Nat) → (Nat → Nat → Int) → Int → Prop := fun P G ps P' G' rn => P' = P ∧ zMVc A Y F ((zf_slp7 (zc_put V 55 (zd_hr (zRc V 7 53) n1ξ npξ (zd_sp (zRc V 7 53) Lwξ t0ξ) (zd_ru (zRc V 7 53) Lwξ t0ξ) t0ξ 24))).2) P' G' ∧ rn = zc_ct (zd_hr (zRc V 7 53) n1ξ npξ (zd_sp (zRc V 7 53) Lwξ t0ξ) (zd_ru (zRc V 7 53) Lwξ t0ξ) t0ξ 24) n1ξ
theorem zX_rns7 {l : Launch} {w : zk_W} (hWξ : zh_W w) (A : Nat → Nat) (Y : List (Nat × Nat)) (F : List (Nat × Nat × Nat)) (V : Nat → Nat → Int) (n1ξ npξ : Nat) (t0ξ : Int) (Lwξ : List yK) : zk_metX l w zt_dv zt_TB zK_rns7 (zp_A (zφ_rns7 A Y F V n1ξ npξ t0ξ Lwξ)) (zp_B (zψ_rns7 A Y F V n1ξ npξ t0ξ Lwξ)) ∧ zk_cok w zt_TB zK_rns7 := by
  refine zp_methX (cn := "WoundTown$Day") zp_lkallDy hWξ (pl := 993) rfl (by decide +kernel) (fun p e R s m args below meth c Q u hx hb hEξ hQξ hU5ξ heffξ hnLξ hokξ hφ => ?_)
  have hwξ := hWξ.1
  obtain ⟨p0ξ, p1ξ, p2ξ, hpsξ, tk0, tk1, tk2⟩ := zp_ps3 hokξ
  have hrmξ : zk_Kr (zk_ev (zt_types, zp_lkDy, zt_dv, [], [], zp_lcDy, zK_rns7)) = zk_Kr zK_rns7 := rfl
  rw [hpsξ] at hφ ⊢
  have hφ : zMVc A Y F V u.1 (zp_n u.2.1) ∧ p0ξ = (A 5 : Int) ∧ zMc Y F ∧ p1ξ = (A 1 : Int) ∧ p2ξ = (A 7 : Int) ∧ V 7 5 = t0ξ ∧ zLF A Y F V Lwξ ∧ zc_ok V 7 53 n1ξ npξ ∧ 0 ≤ t0ξ ∧ t0ξ ≤ 12 ∧ (0 ≤ V 7 6 ∧ V 7 6 ≤ 9999) ∧ ∀ j, j < 6 → 0 ≤ V 53 (2000 + j) ∧ V 53 (2000 + j) ≤ 9 := hφ
  obtain ⟨⟨M, hMξ, hVξ, hSbξ⟩, rfl, hYFξ, rfl, rfl, ht5ξ, hlwξ, hokξ, ht0ξ, ht12ξ, ⟨hdy0ξ, hdy1ξ⟩, hoiξ⟩ := hφ
  have hYF0ξ := hYFξ
  obtain ⟨hYbξ, hFbξ, hFxξ, -⟩ := hYFξ
  show zp_J p l e R s m args below meth c Q w u [] 0 [(0, 2, (A 5 : Int)), (1, 2, (A 1 : Int)), (2, 2, (A 7 : Int))] [] u.1 (zp_n u.2.1)
  obtain ⟨hn10ξ, hnp6ξ, hn1ξ, hnpξ, hDwξ, hDpξ⟩ := hokξ.1
  have hn1ξ : V 1 3 = (n1ξ : Int) := hn1ξ
  have hnpξ : V 1 1 = (npξ : Int) := hnpξ
  refine zp_load (pc := 0) hx hb (zd_X0_runs (0, .aload_n 0, 1, 0, []) (List.mem_of_getElem? (i := 0) rfl)) rfl (j := 0) rfl ?_
  refine zp_load (pc := 1) hx hb (zd_X0_runs (1, .aload_n 1, 1, 0, []) (List.mem_of_getElem? (i := 1) rfl)) rfl (j := 1) rfl ?_
  refine zp_load (pc := 2) hx hb (zd_X0_runs (2, .aload_n 2, 1, 0, []) (List.mem_of_getElem? (i := 2) rfl)) rfl (j := 2) rfl ?_
  refine zp_load (pc := 3) hx hb (zd_X0_runs (3, .aload_n 2, 1, 0, []) (List.mem_of_getElem? (i := 3) rfl)) rfl (j := 2) rfl ?_
  refine zp_getf (n := t0ξ) (pc := 4) hx hb hEξ hwξ (zd_X0_runs (4, .getfield 73, 3, 0, []) (List.mem_of_getElem? (i := 4) rfl)) (j := 3) rfl rfl rfl (zM_P hMξ (hYbξ _ (List.mem_of_getElem? (i := 7) rfl))) (((zM_G hMξ (hYbξ _ (List.mem_of_getElem? (i := 7) rfl)) 5).trans (hVξ 7 5 (by decide))).trans ht5ξ) ?_
  refine zp_call (pc := 7) (how := 0) (idx := 66) (mi := 105) (S := []) hx hb hEξ hwξ heffξ hrmξ (zX_beg7 hWξ A Y F V n1ξ npξ t0ξ Lwξ) rfl (j := 0) rfl rfl (by decide +kernel) (zd_X0_runs (7, .invokevirtual 66, 3, 0, []) (List.mem_of_getElem? (i := 5) rfl)) [(A 5 : Int), (A 1 : Int), (A 7 : Int), t0ξ] rfl ⟨zp_o2 (zM_P hMξ (hYbξ _ (List.mem_of_getElem? (i := 5) rfl))), zp_o2 (zM_P hMξ (hYbξ _ (List.mem_of_getElem? (i := 1) rfl))), zp_o2 (zM_P hMξ (hYbξ _ (List.mem_of_getElem? (i := 7) rfl))), zp_o0 (by omega) (by omega) (by omega) (by omega), trivial⟩ (Nat.le_of_ble_eq_true rfl) ⟨⟨M, hMξ, hVξ, trivial⟩, rfl, hYF0ξ, rfl, rfl, rfl, hlwξ, hokξ, ht0ξ, ht12ξ⟩ (fun al halξ rnbg Pbg Gbg hextbgξ hfrbgξ hokbgξ hcsbgξ hpsibgξ => ?_)
  obtain rfl := List.mem_singleton.mp halξ
  obtain ⟨hPebgξ, Mbg, hMbgξ, hVbgξ, hDsbgξ⟩ := hpsibgξ
  subst hPebgξ
  clear hextbgξ hfrbgξ hokbgξ hcsbgξ
  refine zp_const (pc := 10) hx hb (zd_X0_runs (10, .iconst 0, 1, 0, []) (List.mem_of_getElem? (i := 6) rfl)) rfl rfl ?_
  refine zp_store (L' := [(3, 0, 0), (0, 2, (A 5 : Int)), (1, 2, (A 1 : Int)), (2, 2, (A 7 : Int))]) (pc := 11) hx hb hnLξ (zd_X0_runs (11, .istore_n 3, 1, 0, []) (List.mem_of_getElem? (i := 7) rfl)) rfl rfl rfl ?_
  have loop : ∀ (r9ξ h9ξ : Nat) (M : Nat → Nat → Int) (G : Nat → Nat → Int), r9ξ + h9ξ = 24 → zM A Y F M u.1 G → (∀ o k, zNc o → M o k = V o k) → zDst A Y F V Lwξ 7 53 t0ξ (zd_hr (zRc V 7 53) n1ξ npξ (zd_sp (zRc V 7 53) Lwξ t0ξ) (zd_ru (zRc V 7 53) Lwξ t0ξ) t0ξ h9ξ) M → zp_J p l e R s m args below meth c Q w u [] 12 [(3, 0, (h9ξ : Int)), (0, 2, (A 5 : Int)), (1, 2, (A 1 : Int)), (2, 2, (A 7 : Int))] [] u.1 G := by
    intro r9ξ
    induction r9ξ with
    | zero =>
      intro h9ξ M G hrξ hMξ hVξ hDsξ
      obtain ⟨X, hXeξ⟩ : ∃ X, X = zd_hr (zRc V 7 53) n1ξ npξ (zd_sp (zRc V 7 53) Lwξ t0ξ) (zd_ru (zRc V 7 53) Lwξ t0ξ) t0ξ h9ξ := ⟨_, rfl⟩
      rw [← hXeξ] at hDsξ
      obtain ⟨hAbξ, ⟨h51ξ, h52ξ⟩, hpwξ, hXξ⟩ := hDsξ
      refine zp_load (pc := 12) hx hb (zd_X0_runs (12, .iload_n 3, 1, 0, []) (List.mem_of_getElem? (i := 8) rfl)) rfl (j := 0) rfl ?_
      refine zp_const (pc := 13) hx hb (zd_X0_runs (13, .bipush 24, 2, 0, []) (List.mem_of_getElem? (i := 9) rfl)) rfl rfl ?_
      refine zp_icmp (pc := 15) (tgt := 29) hx hb (zd_X0_runs (15, .if_icmp .ge 14, 3, 0, []) (List.mem_of_getElem? (i := 10) rfl)) rfl (fun (hc584ξ : 24 ≤ (h9ξ : Int)) => ?_) (fun (hc584ξ : ¬ (24 ≤ (h9ξ : Int))) => ?_)
      · refine zp_load (pc := 29) hx hb (zd_X0_runs (29, .aload_n 0, 1, 0, []) (List.mem_of_getElem? (i := 16) rfl)) rfl (j := 1) rfl ?_
        refine zp_getf (n := (A 69 : Int)) (pc := 30) hx hb hEξ hwξ (zd_X0_runs (30, .getfield 15, 3, 0, []) (List.mem_of_getElem? (i := 17) rfl)) (j := 21) rfl rfl rfl (zM_P hMξ (hYbξ _ (List.mem_of_getElem? (i := 5) rfl))) ((zM_G hMξ (hYbξ _ (List.mem_of_getElem? (i := 5) rfl)) 4).trans (zM_F hMξ (hFbξ _ (List.mem_of_getElem? (i := 45) rfl)))) ?_
        refine zp_const (pc := 33) hx hb (zd_X0_runs (33, .iconst 0, 1, 0, []) (List.mem_of_getElem? (i := 18) rfl)) rfl rfl ?_
        refine zp_load (pc := 34) hx hb (zd_X0_runs (34, .aload_n 2, 1, 0, []) (List.mem_of_getElem? (i := 19) rfl)) rfl (j := 3) rfl ?_
        refine zp_getf (n := (A 55 : Int)) (pc := 35) hx hb hEξ hwξ (zd_X0_runs (35, .getfield 51, 3, 0, []) (List.mem_of_getElem? (i := 20) rfl)) (j := 2) rfl rfl rfl (zM_P hMξ (hYbξ _ (List.mem_of_getElem? (i := 7) rfl))) ((zM_G hMξ (hYbξ _ (List.mem_of_getElem? (i := 7) rfl)) 2).trans (zM_F hMξ (hFbξ _ (List.mem_of_getElem? (i := 30) rfl)))) ?_
        refine zp_const (pc := 38) hx hb (zd_X0_runs (38, .iconst 0, 1, 0, []) (List.mem_of_getElem? (i := 21) rfl)) rfl rfl ?_
        refine zp_const (pc := 39) hx hb (zd_X0_runs (39, .bipush 10, 2, 0, []) (List.mem_of_getElem? (i := 22) rfl)) rfl rfl ?_
        refine zp_copyO (n := 10) (i0 := 0) (i1 := 0) (pc := 41) (idx := 54) (T0 := zt_types.getD 15 (0, 0, 0, [])) (T := zt_types.getD 19 (0, 0, 0, [])) hx hb hEξ hwξ heffξ hrmξ (zd_X0_runs (41, .invokestatic 54, 3, 0, []) (List.mem_of_getElem? (i := 23) rfl)) (j := 24) rfl rfl rfl rfl rfl (zM_P hMξ (hYbξ _ (List.mem_of_getElem? (i := 47) rfl))) (zM_P hMξ (hYbξ _ (List.mem_of_getElem? (i := 33) rfl))) rfl (by omega) (by omega) (show 0 + 10 ≤ 10 by omega) (show 0 + 10 ≤ 10 by omega) (by omega) (fun j hjξ v h => h) ⟨by decide, by decide⟩ (by decide) (Or.inr ⟨by decide, by decide⟩) rfl ?_
        have hMy585ξ : zM A Y F (zc_cp M 69 0 55 0 10) u.1 (zp_cpo G (A 69) 0 (A 55) 0 10) := zM_cp hMξ (hYbξ _ (List.mem_of_getElem? (i := 47) rfl)) (hYbξ _ (List.mem_of_getElem? (i := 33) rfl))
        have hVy585ξ := zc_putV (o := 55) hVξ hXξ
        obtain ⟨Gy585, hGy585ξ⟩ : ∃ G9ξ, G9ξ = zp_cpo G (A 69) 0 (A 55) 0 10 := ⟨_, rfl⟩
        rw [← hGy585ξ] at hMy585ξ ⊢
        refine zp_load (pc := 44) hx hb (zd_X0_runs (44, .aload_n 2, 1, 0, []) (List.mem_of_getElem? (i := 24) rfl)) rfl (j := 3) rfl ?_
        refine zp_call (pc := 45) (how := 0) (idx := 77) (mi := 112) (S := []) hx hb hEξ hwξ heffξ hrmξ (zX_slp7 hWξ A Y F (zc_put V 55 X)) rfl (j := 9) rfl rfl (by decide +kernel) (zd_X0_runs (45, .invokevirtual 77, 3, 0, []) (List.mem_of_getElem? (i := 25) rfl)) [(A 7 : Int)] rfl ⟨zp_o2 (zM_P hMy585ξ (hYbξ _ (List.mem_of_getElem? (i := 7) rfl))), trivial⟩ (Nat.le_of_ble_eq_true rfl) ⟨⟨(zc_cp M 69 0 55 0 10), hMy585ξ, hVy585ξ, trivial⟩, rfl, hYF0ξ, (by rw [zc_put_o (by decide)]; exact hdy0ξ), (by rw [zc_put_o (by decide)]; exact hdy1ξ), (fun j hjξ => by rw [zc_put_o (by decide)]; exact hoiξ j hjξ)⟩ (fun al halξ rnsl Psl Gsl hextslξ hfrslξ hokslξ hcsslξ hpsislξ => ?_)
        obtain rfl := List.mem_singleton.mp halξ
        obtain ⟨hPeslξ, Msl, hMslξ, hVslξ, -⟩ := hpsislξ
        have k70 : ∀ k, Msl 70 k = M 70 k := fun k => (zp_ncc hfrslξ hMy585ξ hMslξ (hYbξ _ (List.mem_of_getElem? (i := 48) rfl)) (by decide +kernel) k).trans (zc_cp_o (by decide))
        have k69 : ∀ k, Msl 69 k = M 69 k := fun k => (zp_ncc hfrslξ hMy585ξ hMslξ (hYbξ _ (List.mem_of_getElem? (i := 47) rfl)) (by decide +kernel) k).trans (zc_cp_o (by decide))
        have k5 : ∀ k, Msl 5 k = M 5 k := fun k => (zp_ncc hfrslξ hMy585ξ hMslξ (hYbξ _ (List.mem_of_getElem? (i := 5) rfl)) (by decide +kernel) k).trans (zc_cp_o (by decide))
        subst hPeslξ
        clear hextslξ hfrslξ hokslξ hcsslξ
        have hX9ξ : zDX X Msl := fun w hwξ => ⟨(k69 _).trans (hXξ w hwξ).1, (k70 _).trans (hXξ w hwξ).2⟩
        have h519ξ : Msl 5 1 = (A 1 : Int) := (k5 1).trans h51ξ
        have hn19ξ : (zf_slp7 (zc_put V 55 X)).2 1 3 = (n1ξ : Int) := (zf_slp7_f (by decide)).trans ((zc_put_o (by decide)).trans hn1ξ)
        refine zp_const (pc := 48) hx hb (zd_X0_runs (48, .iconst 0, 1, 0, []) (List.mem_of_getElem? (i := 26) rfl)) rfl rfl ?_
        refine zp_store (L' := [(3, 0, 0), (0, 2, (A 5 : Int)), (1, 2, (A 1 : Int)), (2, 2, (A 7 : Int))]) (pc := 49) hx hb hnLξ (zd_X0_runs (49, .istore_n 3, 1, 0, []) (List.mem_of_getElem? (i := 27) rfl)) rfl rfl rfl ?_
        refine zp_const (pc := 50) hx hb (zd_X0_runs (50, .iconst 0, 1, 0, []) (List.mem_of_getElem? (i := 28) rfl)) rfl rfl ?_
        refine zp_store (L' := [(4, 0, 0), (3, 0, 0), (0, 2, (A 5 : Int)), (1, 2, (A 1 : Int)), (2, 2, (A 7 : Int))]) (pc := 51) hx hb hnLξ (zd_X0_runs (51, .istore 4, 2, 0, []) (List.mem_of_getElem? (i := 29) rfl)) rfl rfl rfl ?_
        have loopc : ∀ (k9ξ w9ξ : Nat), k9ξ + w9ξ = n1ξ → zp_J p l e R s m args below meth c Q w u [] 53 [(4, 0, (w9ξ : Int)), (3, 0, (zc_ct X w9ξ)), (0, 2, (A 5 : Int)), (1, 2, (A 1 : Int)), (2, 2, (A 7 : Int))] [] u.1 Gsl := by
          intro k9ξ
          induction k9ξ with
          | zero =>
            intro w9ξ hkξ
            have hcbξ := zc_ctb (X := X) (w := w9ξ)
            refine zp_load (pc := 53) hx hb (zd_X0_runs (53, .iload 4, 2, 0, []) (List.mem_of_getElem? (i := 30) rfl)) rfl (j := 0) rfl ?_
            refine zp_load (pc := 55) hx hb (zd_X0_runs (55, .aload_n 0, 1, 0, []) (List.mem_of_getElem? (i := 31) rfl)) rfl (j := 2) rfl ?_
            refine zp_getf (n := (A 1 : Int)) (pc := 56) hx hb hEξ hwξ (zd_X0_runs (56, .getfield 25, 3, 0, []) (List.mem_of_getElem? (i := 32) rfl)) (j := 18) rfl rfl rfl (zM_P hMslξ (hYbξ _ (List.mem_of_getElem? (i := 5) rfl))) ((zM_G hMslξ (hYbξ _ (List.mem_of_getElem? (i := 5) rfl)) 1).trans h519ξ) ?_
            refine zp_getf (n := (n1ξ : Int)) (pc := 59) hx hb hEξ hwξ (zd_X0_runs (59, .getfield 80, 3, 0, []) (List.mem_of_getElem? (i := 33) rfl)) (j := 5) rfl rfl rfl (zM_P hMslξ (hYbξ _ (List.mem_of_getElem? (i := 1) rfl))) (((zM_G hMslξ (hYbξ _ (List.mem_of_getElem? (i := 1) rfl)) 3).trans (hVslξ 1 3 (by decide))).trans hn19ξ) ?_
            refine zp_icmp (pc := 62) (tgt := 83) hx hb (zd_X0_runs (62, .if_icmp .ge 21, 3, 0, []) (List.mem_of_getElem? (i := 34) rfl)) rfl (fun (hc586ξ : (n1ξ : Int) ≤ (w9ξ : Int)) => ?_) (fun (hc586ξ : ¬ ((n1ξ : Int) ≤ (w9ξ : Int))) => ?_)
            · refine zp_load (pc := 83) hx hb (zd_X0_runs (83, .iload_n 3, 1, 0, []) (List.mem_of_getElem? (i := 42) rfl)) rfl (j := 1) rfl ?_
              obtain rfl : w9ξ = n1ξ := by omega
              obtain rfl : h9ξ = 24 := by omega
              refine zp_iret (pc := 84) (n := (zc_ct X w9ξ)) hx hb hEξ hQξ hU5ξ rfl (by decide) (zd_X0_runs (84, .ireturn, 1, 0, []) (List.mem_of_getElem? (i := 43) rfl)) (j := 0) rfl (zp_o0 (by omega) (by omega) (by omega) (by omega)) ?_
              rw [hpsξ]
              refine ⟨rfl, ?_⟩
              show zMVc A Y F ((zf_slp7 (zc_put V 55 (zd_hr (zRc V 7 53) w9ξ npξ (zd_sp (zRc V 7 53) Lwξ t0ξ) (zd_ru (zRc V 7 53) Lwξ t0ξ) t0ξ 24))).2) u.1 Gsl ∧ zc_ct X w9ξ = zc_ct (zd_hr (zRc V 7 53) w9ξ npξ (zd_sp (zRc V 7 53) Lwξ t0ξ) (zd_ru (zRc V 7 53) Lwξ t0ξ) t0ξ 24) w9ξ
              rw [← hXeξ]
              exact ⟨⟨Msl, hMslξ, hVslξ, trivial⟩, rfl⟩
            · exfalso
              omega
          | succ k9ξ ihc =>
            intro w9ξ hkξ
            have hcbξ := zc_ctb (X := X) (w := w9ξ)
            refine zp_load (pc := 53) hx hb (zd_X0_runs (53, .iload 4, 2, 0, []) (List.mem_of_getElem? (i := 30) rfl)) rfl (j := 0) rfl ?_
            refine zp_load (pc := 55) hx hb (zd_X0_runs (55, .aload_n 0, 1, 0, []) (List.mem_of_getElem? (i := 31) rfl)) rfl (j := 2) rfl ?_
            refine zp_getf (n := (A 1 : Int)) (pc := 56) hx hb hEξ hwξ (zd_X0_runs (56, .getfield 25, 3, 0, []) (List.mem_of_getElem? (i := 32) rfl)) (j := 18) rfl rfl rfl (zM_P hMslξ (hYbξ _ (List.mem_of_getElem? (i := 5) rfl))) ((zM_G hMslξ (hYbξ _ (List.mem_of_getElem? (i := 5) rfl)) 1).trans h519ξ) ?_
            refine zp_getf (n := (n1ξ : Int)) (pc := 59) hx hb hEξ hwξ (zd_X0_runs (59, .getfield 80, 3, 0, []) (List.mem_of_getElem? (i := 33) rfl)) (j := 5) rfl rfl rfl (zM_P hMslξ (hYbξ _ (List.mem_of_getElem? (i := 1) rfl))) (((zM_G hMslξ (hYbξ _ (List.mem_of_getElem? (i := 1) rfl)) 3).trans (hVslξ 1 3 (by decide))).trans hn19ξ) ?_
            refine zp_icmp (pc := 62) (tgt := 83) hx hb (zd_X0_runs (62, .if_icmp .ge 21, 3, 0, []) (List.mem_of_getElem? (i := 34) rfl)) rfl (fun (hc587ξ : (n1ξ : Int) ≤ (w9ξ : Int)) => ?_) (fun (hc587ξ : ¬ ((n1ξ : Int) ≤ (w9ξ : Int))) => ?_)
            · exfalso
              omega
            · refine zp_load (pc := 65) hx hb (zd_X0_runs (65, .aload_n 0, 1, 0, []) (List.mem_of_getElem? (i := 35) rfl)) rfl (j := 2) rfl ?_
              refine zp_load (pc := 66) hx hb (zd_X0_runs (66, .iload 4, 2, 0, []) (List.mem_of_getElem? (i := 36) rfl)) rfl (j := 0) rfl ?_
              refine zp_call (pc := 68) (how := 0) (idx := 83) (mi := 113) (S := []) hx hb hEξ hwξ heffξ hrmξ (zX_ised hWξ A Y F Msl (zf_slp7 (zc_put V 55 X)).2 X) rfl (j := 10) rfl rfl (by decide +kernel) (zd_X0_runs (68, .invokevirtual 83, 3, 0, []) (List.mem_of_getElem? (i := 37) rfl)) [(A 5 : Int), (w9ξ : Int)] rfl ⟨zp_o2 (zM_P hMslξ (hYbξ _ (List.mem_of_getElem? (i := 5) rfl))), zp_o0 (by omega) (by omega) (by omega) (by omega), trivial⟩ (Nat.le_of_ble_eq_true rfl) ⟨hMslξ, rfl, hYF0ξ, hVslξ, h519ξ, hX9ξ⟩ (fun al halξ rne588ξ Pe588 Ge588 hexte588ξ hfre588ξ hoke588ξ hcse588ξ hpsie588ξ => ?_)
              obtain rfl := List.mem_singleton.mp halξ
              have hre588ξ := zp_int (hoke588ξ _ rfl).1
              obtain ⟨hPee588ξ, hGee588ξ, hte588ξ⟩ := hpsie588ξ
              rw [hPee588ξ, hGee588ξ]
              clear hexte588ξ hfre588ξ hcse588ξ hPee588ξ hGee588ξ
              have hte588ξ : rne588ξ = 1 ↔ (0 ≤ (w9ξ : Int) ∧ (w9ξ : Int) < 10) ∧ X.2 ((w9ξ : Int)).toNat ≠ -1 := hte588ξ
              rw [show ((w9ξ : Int) : Int).toNat = w9ξ by omega] at hte588ξ
              refine zp_if (pc := 71) (tgt := 77) hx hb (zd_X0_runs (71, .ifCond .eq 6, 3, 0, []) (List.mem_of_getElem? (i := 38) rfl)) rfl (fun (hc589ξ : rne588ξ = 0) => ?_) (fun (hc589ξ : ¬ (rne588ξ = 0)) => ?_)
              · refine zp_iinc (L' := [(4, 0, ((w9ξ : Int) + 1)), (3, 0, (zc_ct X w9ξ)), (0, 2, (A 5 : Int)), (1, 2, (A 1 : Int)), (2, 2, (A 7 : Int))]) (n := ((w9ξ : Int) + 1)) (pc := 77) hx hb hnLξ (zd_X0_runs (77, .iinc 4 1, 3, 0, []) (List.mem_of_getElem? (i := 40) rfl)) (j := 0) rfl (by omega) (zp_r0 (by omega) (by omega)) rfl rfl ?_
                refine zp_goto (tgt := 53) (pc := 80) hx hb (zd_X0_runs (80, .goto (-27), 3, 0, []) (List.mem_of_getElem? (i := 41) rfl)) rfl ?_
                have hctξ : (zc_ct X w9ξ) = zc_ct X (w9ξ + 1) := by
                  rw [zc_ct]
                  by_cases e9ξ : X.2 w9ξ = -1
                  · rw [if_pos e9ξ]
                    all_goals omega
                  · rw [if_neg e9ξ]
                    all_goals omega
                rw [hctξ]
                refine zp_drop (L' := [(4, 0, ((w9ξ : Int) + 1)), (3, 0, (zc_ct X (w9ξ + 1))), (0, 2, (A 5 : Int)), (1, 2, (A 1 : Int)), (2, 2, (A 7 : Int))]) (by simp) ?_
                exact ihc (w9ξ + 1) (by omega)
              · refine zp_iinc (L' := [(3, 0, ((zc_ct X w9ξ) + 1)), (4, 0, (w9ξ : Int)), (0, 2, (A 5 : Int)), (1, 2, (A 1 : Int)), (2, 2, (A 7 : Int))]) (n := ((zc_ct X w9ξ) + 1)) (pc := 74) hx hb hnLξ (zd_X0_runs (74, .iinc 3 1, 3, 0, []) (List.mem_of_getElem? (i := 39) rfl)) (j := 1) rfl (by omega) (zp_r0 (by omega) (by omega)) rfl rfl ?_
                refine zp_iinc (L' := [(4, 0, ((w9ξ : Int) + 1)), (3, 0, ((zc_ct X w9ξ) + 1)), (0, 2, (A 5 : Int)), (1, 2, (A 1 : Int)), (2, 2, (A 7 : Int))]) (n := ((w9ξ : Int) + 1)) (pc := 77) hx hb hnLξ (zd_X0_runs (77, .iinc 4 1, 3, 0, []) (List.mem_of_getElem? (i := 40) rfl)) (j := 1) rfl (by omega) (zp_r0 (by omega) (by omega)) rfl rfl ?_
                refine zp_goto (tgt := 53) (pc := 80) hx hb (zd_X0_runs (80, .goto (-27), 3, 0, []) (List.mem_of_getElem? (i := 41) rfl)) rfl ?_
                have hctξ : ((zc_ct X w9ξ) + 1) = zc_ct X (w9ξ + 1) := by
                  rw [zc_ct]
                  by_cases e9ξ : X.2 w9ξ = -1
                  · rw [if_pos e9ξ]
                    all_goals omega
                  · rw [if_neg e9ξ]
                    all_goals omega
                rw [hctξ]
                refine zp_drop (L' := [(4, 0, ((w9ξ : Int) + 1)), (3, 0, (zc_ct X (w9ξ + 1))), (0, 2, (A 5 : Int)), (1, 2, (A 1 : Int)), (2, 2, (A 7 : Int))]) (by simp) ?_
                exact ihc (w9ξ + 1) (by omega)
        refine zp_drop (L' := [(4, 0, 0), (3, 0, 0), (0, 2, (A 5 : Int)), (1, 2, (A 1 : Int)), (2, 2, (A 7 : Int))]) (by simp) ?_
        exact loopc n1ξ 0 (by omega)
      · exfalso
        omega
    | succ r9ξ ih =>
      intro h9ξ M G hrξ hMξ hVξ hDsξ
      refine zp_load (pc := 12) hx hb (zd_X0_runs (12, .iload_n 3, 1, 0, []) (List.mem_of_getElem? (i := 8) rfl)) rfl (j := 0) rfl ?_
      refine zp_const (pc := 13) hx hb (zd_X0_runs (13, .bipush 24, 2, 0, []) (List.mem_of_getElem? (i := 9) rfl)) rfl rfl ?_
      refine zp_icmp (pc := 15) (tgt := 29) hx hb (zd_X0_runs (15, .if_icmp .ge 14, 3, 0, []) (List.mem_of_getElem? (i := 10) rfl)) rfl (fun (hc590ξ : 24 ≤ (h9ξ : Int)) => ?_) (fun (hc590ξ : ¬ (24 ≤ (h9ξ : Int))) => ?_)
      · exfalso
        omega
      · refine zp_load (pc := 18) hx hb (zd_X0_runs (18, .aload_n 0, 1, 0, []) (List.mem_of_getElem? (i := 11) rfl)) rfl (j := 1) rfl ?_
        refine zp_load (pc := 19) hx hb (zd_X0_runs (19, .iload_n 3, 1, 0, []) (List.mem_of_getElem? (i := 12) rfl)) rfl (j := 0) rfl ?_
        refine zp_call (pc := 20) (how := 0) (idx := 69) (mi := 108) (S := []) hx hb hEξ hwξ heffξ hrmξ (zX_psh7 hWξ A Y F M V n1ξ npξ t0ξ Lwξ h9ξ) rfl (j := 4) rfl rfl (by decide +kernel) (zd_X0_runs (20, .invokevirtual 69, 3, 0, []) (List.mem_of_getElem? (i := 13) rfl)) [(A 5 : Int), (h9ξ : Int)] rfl ⟨zp_o2 (zM_P hMξ (hYbξ _ (List.mem_of_getElem? (i := 5) rfl))), zp_o0 (by omega) (by omega) (by omega) (by omega), trivial⟩ (Nat.le_of_ble_eq_true rfl) ⟨hMξ, rfl, hYF0ξ, hVξ, hDsξ, rfl, by omega, hokξ, ht0ξ, ht12ξ⟩ (fun al halξ rnps Pps Gps hextpsξ hfrpsξ hokpsξ hcspsξ hpsipsξ => ?_)
        obtain rfl := List.mem_singleton.mp halξ
        obtain ⟨hPepsξ, Mps, hMpsξ, hVpsξ, hDspsξ⟩ := hpsipsξ
        subst hPepsξ
        clear hextpsξ hfrpsξ hokpsξ hcspsξ
        refine zp_iinc (L' := [(3, 0, ((h9ξ : Int) + 1)), (0, 2, (A 5 : Int)), (1, 2, (A 1 : Int)), (2, 2, (A 7 : Int))]) (n := ((h9ξ : Int) + 1)) (pc := 23) hx hb hnLξ (zd_X0_runs (23, .iinc 3 1, 3, 0, []) (List.mem_of_getElem? (i := 14) rfl)) (j := 0) rfl (by omega) (zp_r0 (by omega) (by omega)) rfl rfl ?_
        refine zp_goto (tgt := 12) (pc := 26) hx hb (zd_X0_runs (26, .goto (-14), 3, 0, []) (List.mem_of_getElem? (i := 15) rfl)) rfl ?_
        refine zp_drop (L' := [(3, 0, ((h9ξ : Int) + 1)), (0, 2, (A 5 : Int)), (1, 2, (A 1 : Int)), (2, 2, (A 7 : Int))]) (by simp) ?_
        exact ih (h9ξ + 1) Mps Gps (by omega) hMpsξ hVpsξ hDspsξ
  exact loop 24 0 Mbg Gbg (by omega) hMbgξ hVbgξ hDsbgξ
