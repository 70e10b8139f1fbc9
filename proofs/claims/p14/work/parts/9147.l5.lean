/-! part l5: the class over logical cells: orders' words, a clause of orders -/
/-- orders' words as the class lays them -/
noncomputable def zo_wC (V : Nat → Nat → Int) : Nat → Int := fun j => if j = 0 then V 2 6 else if j = 1 then V 2 5 else if j = 2 then V 2 3 else if j = 3 then V 0 13 else if j = 4 then V 0 14 else if j < 11 then (if ((j - 5 : Nat) : Int) < V 1 1 then V 51 (2000 + (j - 5)) else -1) else if ((j - 11 : Nat) : Int) < V 1 3 then V 33 (2000 + (j - 11)) - V 52 (2000 + (j - 11)) else -1
/-- so many of them are laid -/
noncomputable def zo_tw (A : Nat → Nat) (Y : List (Nat × Nat)) (F : List (Nat × Nat × Nat)) (V : Nat → Nat → Int) (n : Nat) (P : Nat → Option Nat) (G : Nat → Nat → Int) : Prop := ∃ M, zM A Y F M P G ∧ (∀ o k, zNc o → M o k = V o k) ∧ ∀ j, j < n → M 21 (2000 + j) = zo_wC V j
theorem zo_tw_s {V M : Nat → Nat → Int} {n jn : Nat} {v : Int} (h : ∀ j, j < n → M 21 (2000 + j) = zo_wC V j) (hnξ : jn = n) (hvξ : v = zo_wC V n) : ∀ j, j < n + 1 → zp_set M 21 (2000 + jn) v 21 (2000 + j) = zo_wC V j := fun j hjξ => by
  subst hnξ
  by_cases e : j = jn
  · rw [e, zp_set_self]
    exact hvξ
  · rw [zp_set_ne (Or.inr (by omega))]
    exact h j (by omega)
theorem zo_wC_p {V : Nat → Nat → Int} {i : Nat} (h : i < 6) : zo_wC V (5 + i) = if (i : Int) < V 1 1 then V 51 (2000 + i) else -1 := by
  unfold zo_wC
  rw [if_neg (by omega), if_neg (by omega), if_neg (by omega), if_neg (by omega), if_neg (by omega), if_pos (by omega), show 5 + i - 5 = i by omega]
theorem zo_wC_w {V : Nat → Nat → Int} {i : Nat} (h : i < 10) : zo_wC V (11 + i) = if (i : Int) < V 1 3 then V 33 (2000 + i) - V 52 (2000 + i) else -1 := by
  unfold zo_wC
  rw [if_neg (by omega), if_neg (by omega), if_neg (by omega), if_neg (by omega), if_neg (by omega), if_neg (by omega), show 11 + i - 11 = i by omega]
noncomputable def zK_tow : zk_K := (zt_mn 83, prog_1_method_17_code, 3, (Option.none : Option Jvm.ClassFile.FieldType), 1, 11, [(2, 12, 0, 0)], [(none, [])], [(56, 1001, 0)], (1, 60, 0, 0))
noncomputable def zφ_tow (A : Nat → Nat) (Y : List (Nat × Nat)) (F : List (Nat × Nat × Nat)) (V : Nat → Nat → Int) : (Nat → Option Nat) → (Nat → Nat → Int) → List Int → Prop := fun P G ps => zMVc A Y F V P G ∧ ps.getD 0 0 = (A 0 : Int) ∧ zMc Y F ∧ ∀ w : Nat, (w : Int) < V 1 3 → w < 10 → 0 ≤ V 33 (2000 + w) ∧ V 33 (2000 + w) ≤ 100000 ∧ 0 ≤ V 52 (2000 + w) ∧ V 52 (2000 + w) ≤ 100000
noncomputable def zψ_tow (A : Nat → Nat) (Y : List (Nat × Nat)) (F : List (Nat × Nat × Nat)) (V : Nat → Nat → Int) : (Nat → Option Nat) → (Nat → Nat → Int) → List Int → (Nat → Option Nat) → (Nat → Nat → Int) → Int → Prop := fun P G ps P' G' rn => P' = P ∧ zo_tw A Y F V 21 P' G'
theorem zX_tow {l : Launch} {w : zk_W} (hWξ : zh_W w) (A : Nat → Nat) (Y : List (Nat × Nat)) (F : List (Nat × Nat × Nat)) (V : Nat → Nat → Int) : zk_metX l w zt_dv zt_TB zK_tow (zp_A (zφ_tow A Y F V)) (zp_B (zψ_tow A Y F V)) ∧ zk_cok w zt_TB zK_tow := by
  refine zp_methX (cn := "WoundTown") zp_lkallW hWξ (pl := 906) rfl (by decide +kernel) (fun p e R s m args below meth c Q u hx hb hEξ hQξ hU5ξ heffξ hnLξ hokξ hφ => ?_)
  have hwξ := hWξ.1
  obtain ⟨p0ξ, hpsξ, tk0⟩ := zp_ps1 hokξ
  have hrmξ : zk_Kr (zk_ev (zt_types, zp_lkW, zt_dv, [], [], zp_lcW, zK_tow)) = zk_Kr zK_tow := rfl
  rw [hpsξ] at hφ ⊢
  have hφ : zMVc A Y F V u.1 (zp_n u.2.1) ∧ p0ξ = (A 0 : Int) ∧ zMc Y F ∧ ∀ w : Nat, (w : Int) < V 1 3 → w < 10 → 0 ≤ V 33 (2000 + w) ∧ V 33 (2000 + w) ≤ 100000 ∧ 0 ≤ V 52 (2000 + w) ∧ V 52 (2000 + w) ≤ 100000 := hφ
  obtain ⟨⟨M, hMξ, hVξ, hSbξ⟩, rfl, hYFξ, hwbξ⟩ := hφ
  have hYF0ξ := hYFξ
  obtain ⟨hYbξ, hFbξ, hFxξ, -⟩ := hYFξ
  show zp_J p l e R s m args below meth c Q w u [] 0 [(0, 2, (A 0 : Int))] [] u.1 (zp_n u.2.1)
  have loop2 : ∀ (r9ξ i9ξ : Nat) (G : Nat → Nat → Int), r9ξ + i9ξ = 10 → zo_tw A Y F V (11 + i9ξ) u.1 G → zp_J p l e R s m args below meth c Q w u [] 103 [(2, 0, (i9ξ : Int)), (1, 2, (A 2 : Int)), (0, 2, (A 0 : Int))] [] u.1 G := by
    intro r9ξ
    induction r9ξ with
    | zero =>
      intro i9ξ G hrξ hT9ξ
      obtain rfl : i9ξ = 10 := by omega
      obtain ⟨M9ξ, hM9ξ, hV9ξ, hW9ξ⟩ := hT9ξ
      show zp_J p l e R s m args below meth c Q w u [] 103 [(2, 0, 10), (1, 2, (A 2 : Int)), (0, 2, (A 0 : Int))] [] u.1 G
      refine zp_load (pc := 103) hx hb (zd_X11_tellOrderWords (103, .iload_n 2, 1, 0, []) (List.mem_of_getElem? (i := 60) rfl)) rfl (j := 0) rfl ?_
      refine zp_const (pc := 104) hx hb (zd_X11_tellOrderWords (104, .bipush 10, 2, 0, []) (List.mem_of_getElem? (i := 61) rfl)) rfl rfl ?_
      refine zp_icmp (pc := 106) (tgt := 155) hx hb (zd_X11_tellOrderWords (106, .if_icmp .ge 49, 3, 0, []) (List.mem_of_getElem? (i := 62) rfl)) rfl (fun (hc645ξ : 10 ≤ (10 : Int)) => ?_) (fun (hc645ξ : ¬ (10 ≤ (10 : Int))) => ?_)
      · refine zp_vret (pc := 155) hx hb hEξ hQξ hU5ξ rfl (by decide) (zd_X11_tellOrderWords (155, .return_, 1, 0, []) (List.mem_of_getElem? (i := 88) rfl)) (j := 0) rfl ?_
        rw [hpsξ]
        refine ⟨rfl, ?_⟩
        exact ⟨M9ξ, hM9ξ, hV9ξ, hW9ξ⟩
      · exfalso
        omega
    | succ r9ξ ih =>
      intro i9ξ G hrξ hT9ξ
      obtain ⟨M9ξ, hM9ξ, hV9ξ, hW9ξ⟩ := hT9ξ
      have hi9nξ : i9ξ < 10 := by omega
      refine zp_load (pc := 103) hx hb (zd_X11_tellOrderWords (103, .iload_n 2, 1, 0, []) (List.mem_of_getElem? (i := 60) rfl)) rfl (j := 0) rfl ?_
      refine zp_const (pc := 104) hx hb (zd_X11_tellOrderWords (104, .bipush 10, 2, 0, []) (List.mem_of_getElem? (i := 61) rfl)) rfl rfl ?_
      refine zp_icmp (pc := 106) (tgt := 155) hx hb (zd_X11_tellOrderWords (106, .if_icmp .ge 49, 3, 0, []) (List.mem_of_getElem? (i := 62) rfl)) rfl (fun (hc646ξ : 10 ≤ (i9ξ : Int)) => ?_) (fun (hc646ξ : ¬ (10 ≤ (i9ξ : Int))) => ?_)
      · exfalso
        omega
      · refine zp_load (pc := 109) hx hb (zd_X11_tellOrderWords (109, .aload_n 0, 1, 0, []) (List.mem_of_getElem? (i := 63) rfl)) rfl (j := 2) rfl ?_
        refine zp_getf (n := (A 21 : Int)) (pc := 110) hx hb hEξ hwξ (zd_X11_tellOrderWords (110, .getfield 90, 3, 0, []) (List.mem_of_getElem? (i := 64) rfl)) (j := 62) rfl rfl rfl (zM_P hM9ξ (hYbξ _ (List.mem_of_getElem? (i := 0) rfl))) ((zM_G hM9ξ (hYbξ _ (List.mem_of_getElem? (i := 0) rfl)) 12).trans (zM_F hM9ξ (hFbξ _ (List.mem_of_getElem? (i := 10) rfl)))) ?_
        refine zp_const (pc := 113) hx hb (zd_X11_tellOrderWords (113, .bipush 11, 2, 0, []) (List.mem_of_getElem? (i := 65) rfl)) rfl rfl ?_
        refine zp_load (pc := 115) hx hb (zd_X11_tellOrderWords (115, .iload_n 2, 1, 0, []) (List.mem_of_getElem? (i := 66) rfl)) rfl (j := 0) rfl ?_
        refine zp_add (n := ((i9ξ : Int) + 11)) (pc := 116) hx hb (zd_X11_tellOrderWords (116, .iadd, 1, 0, []) (List.mem_of_getElem? (i := 67) rfl)) (by omega) (zp_r0 (by omega) (by omega)) ?_
        refine zp_load (pc := 117) hx hb (zd_X11_tellOrderWords (117, .aload_n 0, 1, 0, []) (List.mem_of_getElem? (i := 68) rfl)) rfl (j := 2) rfl ?_
        refine zp_getf (n := (A 1 : Int)) (pc := 118) hx hb hEξ hwξ (zd_X11_tellOrderWords (118, .getfield 10, 3, 0, []) (List.mem_of_getElem? (i := 69) rfl)) (j := 50) rfl rfl rfl (zM_P hM9ξ (hYbξ _ (List.mem_of_getElem? (i := 0) rfl))) ((zM_G hM9ξ (hYbξ _ (List.mem_of_getElem? (i := 0) rfl)) 0).trans (zM_F hM9ξ (hFbξ _ (List.mem_of_getElem? (i := 0) rfl)))) ?_
        refine zp_load (pc := 121) hx hb (zd_X11_tellOrderWords (121, .iload_n 2, 1, 0, []) (List.mem_of_getElem? (i := 70) rfl)) rfl (j := 0) rfl ?_
        refine zp_call (pc := 122) (how := 0) (idx := 150) (mi := 26) (S := [(0, ((i9ξ : Int) + 11)), (2, (A 21 : Int))]) hx hb hEξ hwξ heffξ hrmξ (zX_hwo1 hWξ A Y F M9ξ) rfl (j := 17) rfl rfl (by decide +kernel) (zd_X11_tellOrderWords (122, .invokevirtual 150, 3, 0, []) (List.mem_of_getElem? (i := 71) rfl)) [(A 1 : Int), (i9ξ : Int)] rfl ⟨zp_o2 (zM_P hM9ξ (hYbξ _ (List.mem_of_getElem? (i := 1) rfl))), zp_o0 (by omega) (by omega) (by omega) (by omega), trivial⟩ (Nat.le_of_ble_eq_true rfl) ⟨hM9ξ, rfl, hYF0ξ⟩ (fun al halξ rni647ξ Pi647 Gi647 hexti647ξ hfri647ξ hoki647ξ hcsi647ξ hpsii647ξ => ?_)
        obtain rfl := List.mem_singleton.mp halξ
        have hri647ξ := zp_int (hoki647ξ _ rfl).1
        obtain ⟨hPei647ξ, hGei647ξ, hti647ξ⟩ := hpsii647ξ
        rw [hPei647ξ, hGei647ξ]
        clear hexti647ξ hfri647ξ hcsi647ξ hPei647ξ hGei647ξ
        have hti647ξ : rni647ξ = 1 ↔ 0 ≤ (i9ξ : Int) ∧ (i9ξ : Int) < (V 1 3) ∧ (i9ξ : Int) < 10 := by
          have h9ξ : rni647ξ = 1 ↔ 0 ≤ (i9ξ : Int) ∧ (i9ξ : Int) < M9ξ 1 3 ∧ (i9ξ : Int) < 10 := hti647ξ
          rw [(hV9ξ 1 3 (by decide))] at h9ξ
          exact h9ξ
        refine zp_if (pc := 125) (tgt := 147) hx hb (zd_X11_tellOrderWords (125, .ifCond .eq 22, 3, 0, []) (List.mem_of_getElem? (i := 72) rfl)) rfl (fun (hc648ξ : rni647ξ = 0) => ?_) (fun (hc648ξ : ¬ (rni647ξ = 0)) => ?_)
        · have hbf649ξ : ¬ (0 ≤ (i9ξ : Int) ∧ (i9ξ : Int) < (V 1 3) ∧ (i9ξ : Int) < 10) := fun h9ξ => absurd ((Iff.mpr hti647ξ) h9ξ) (by omega)
          refine zp_const (pc := 147) hx hb (zd_X11_tellOrderWords (147, .iconst (-1), 1, 0, []) (List.mem_of_getElem? (i := 84) rfl)) rfl rfl ?_
          refine zp_iast (j := (i9ξ + 11)) (pc := 148) hx hb hwξ heffξ (zd_X11_tellOrderWords (148, .iastore, 1, 0, []) (List.mem_of_getElem? (i := 85) rfl)) (show zp_ia 1 56 = some (21, 0, 0, (-2147483648), 2147483647) from rfl) (zM_P hM9ξ (hYbξ _ (List.mem_of_getElem? (i := 15) rfl))) (by omega) (by omega) (zp_o0 (by omega) (by omega) (by omega) (by omega)) rfl ?_
          refine zp_iinc (L' := [(2, 0, ((i9ξ : Int) + 1)), (1, 2, (A 2 : Int)), (0, 2, (A 0 : Int))]) (n := ((i9ξ : Int) + 1)) (pc := 149) hx hb hnLξ (zd_X11_tellOrderWords (149, .iinc 2 1, 3, 0, []) (List.mem_of_getElem? (i := 86) rfl)) (j := 0) rfl (by omega) (zp_r0 (by omega) (by omega)) rfl rfl ?_
          refine zp_goto (tgt := 103) (pc := 152) hx hb (zd_X11_tellOrderWords (152, .goto (-49), 3, 0, []) (List.mem_of_getElem? (i := 87) rfl)) rfl ?_
          refine zp_drop (L' := [(2, 0, ((i9ξ : Int) + 1)), (1, 2, (A 2 : Int)), (0, 2, (A 0 : Int))]) (by simp) ?_
          refine ih (i9ξ + 1) _ (by omega) ⟨(zp_set M9ξ 21 (2000 + (i9ξ + 11)) (-1)), (zM_setE hM9ξ (hYbξ _ (List.mem_of_getElem? (i := 15) rfl))), (fun o k hkξ => (zp_set_ne (Or.inl (fun e => by subst e; exact absurd hkξ (by decide)))).trans (hV9ξ o k hkξ)), zo_tw_s (n := 11 + i9ξ) hW9ξ (by omega) ?_⟩
          rw [zo_wC_w hi9nξ]
          rw [if_neg (by omega)]
        · have hbt650ξ := (Iff.mp hti647ξ) (by omega)
          refine zp_load (pc := 128) hx hb (zd_X11_tellOrderWords (128, .aload_n 0, 1, 0, []) (List.mem_of_getElem? (i := 73) rfl)) rfl (j := 2) rfl ?_
          refine zp_getf (n := (A 1 : Int)) (pc := 129) hx hb hEξ hwξ (zd_X11_tellOrderWords (129, .getfield 10, 3, 0, []) (List.mem_of_getElem? (i := 74) rfl)) (j := 50) rfl rfl rfl (zM_P hM9ξ (hYbξ _ (List.mem_of_getElem? (i := 0) rfl))) ((zM_G hM9ξ (hYbξ _ (List.mem_of_getElem? (i := 0) rfl)) 0).trans (zM_F hM9ξ (hFbξ _ (List.mem_of_getElem? (i := 0) rfl)))) ?_
          refine zp_getf (n := (A 33 : Int)) (pc := 132) hx hb hEξ hwξ (zd_X11_tellOrderWords (132, .getfield 163, 3, 0, []) (List.mem_of_getElem? (i := 75) rfl)) (j := 14) rfl rfl rfl (zM_P hM9ξ (hYbξ _ (List.mem_of_getElem? (i := 1) rfl))) ((zM_G hM9ξ (hYbξ _ (List.mem_of_getElem? (i := 1) rfl)) 5).trans (zM_F hM9ξ (hFbξ _ (List.mem_of_getElem? (i := 16) rfl)))) ?_
          refine zp_load (pc := 135) hx hb (zd_X11_tellOrderWords (135, .iload_n 2, 1, 0, []) (List.mem_of_getElem? (i := 76) rfl)) rfl (j := 0) rfl ?_
          refine zp_iald (j := i9ξ) (v := (V 33 (2000 + i9ξ))) (pc := 136) hx hb hwξ (zd_X11_tellOrderWords (136, .iaload, 1, 0, []) (List.mem_of_getElem? (i := 77) rfl)) (show zp_ia 1 45 = some (10, 0, 0, (-2147483648), 2147483647) from rfl) (zM_P hM9ξ (hYbξ _ (List.mem_of_getElem? (i := 20) rfl))) (by omega) (by omega) ((zM_G hM9ξ (hYbξ _ (List.mem_of_getElem? (i := 20) rfl)) (2000 + i9ξ)).trans (hV9ξ 33 (2000 + i9ξ) (by decide))) (fun hk651ξ => ?_)
          have hk651bξ := zp_int hk651ξ
          clear hk651ξ
          have hwb9ξ := hwbξ i9ξ (by omega) (by omega)
          refine zp_load (pc := 137) hx hb (zd_X11_tellOrderWords (137, .aload_n 1, 1, 0, []) (List.mem_of_getElem? (i := 78) rfl)) rfl (j := 1) rfl ?_
          refine zp_getf (n := (A 52 : Int)) (pc := 138) hx hb hEξ hwξ (zd_X11_tellOrderWords (138, .getfield 175, 3, 0, []) (List.mem_of_getElem? (i := 79) rfl)) (j := 4) rfl rfl rfl (zM_P hM9ξ (hYbξ _ (List.mem_of_getElem? (i := 2) rfl))) ((zM_G hM9ξ (hYbξ _ (List.mem_of_getElem? (i := 2) rfl)) 2).trans (zM_F hM9ξ (hFbξ _ (List.mem_of_getElem? (i := 27) rfl)))) ?_
          refine zp_load (pc := 141) hx hb (zd_X11_tellOrderWords (141, .iload_n 2, 1, 0, []) (List.mem_of_getElem? (i := 80) rfl)) rfl (j := 0) rfl ?_
          refine zp_iald (j := i9ξ) (v := (V 52 (2000 + i9ξ))) (pc := 142) hx hb hwξ (zd_X11_tellOrderWords (142, .iaload, 1, 0, []) (List.mem_of_getElem? (i := 81) rfl)) (show zp_ia 1 19 = some (10, 0, 0, (-2147483648), 2147483647) from rfl) (zM_P hM9ξ (hYbξ _ (List.mem_of_getElem? (i := 30) rfl))) (by omega) (by omega) ((zM_G hM9ξ (hYbξ _ (List.mem_of_getElem? (i := 30) rfl)) (2000 + i9ξ)).trans (hV9ξ 52 (2000 + i9ξ) (by decide))) (fun hk652ξ => ?_)
          have hk652bξ := zp_int hk652ξ
          clear hk652ξ
          refine zp_sub (n := ((V 33 (2000 + i9ξ)) - (V 52 (2000 + i9ξ)))) (pc := 143) hx hb (zd_X11_tellOrderWords (143, .isub, 1, 0, []) (List.mem_of_getElem? (i := 82) rfl)) (by omega) (zp_r0 (by omega) (by omega)) ?_
          refine zp_goto (tgt := 148) (pc := 144) hx hb (zd_X11_tellOrderWords (144, .goto 4, 3, 0, []) (List.mem_of_getElem? (i := 83) rfl)) rfl ?_
          refine zp_iast (j := (i9ξ + 11)) (pc := 148) hx hb hwξ heffξ (zd_X11_tellOrderWords (148, .iastore, 1, 0, []) (List.mem_of_getElem? (i := 85) rfl)) (show zp_ia 1 56 = some (21, 0, 0, (-2147483648), 2147483647) from rfl) (zM_P hM9ξ (hYbξ _ (List.mem_of_getElem? (i := 15) rfl))) (by omega) (by omega) (zp_o0 (by omega) (by omega) (by omega) (by omega)) rfl ?_
          refine zp_iinc (L' := [(2, 0, ((i9ξ : Int) + 1)), (1, 2, (A 2 : Int)), (0, 2, (A 0 : Int))]) (n := ((i9ξ : Int) + 1)) (pc := 149) hx hb hnLξ (zd_X11_tellOrderWords (149, .iinc 2 1, 3, 0, []) (List.mem_of_getElem? (i := 86) rfl)) (j := 0) rfl (by omega) (zp_r0 (by omega) (by omega)) rfl rfl ?_
          refine zp_goto (tgt := 103) (pc := 152) hx hb (zd_X11_tellOrderWords (152, .goto (-49), 3, 0, []) (List.mem_of_getElem? (i := 87) rfl)) rfl ?_
          refine zp_drop (L' := [(2, 0, ((i9ξ : Int) + 1)), (1, 2, (A 2 : Int)), (0, 2, (A 0 : Int))]) (by simp) ?_
          refine ih (i9ξ + 1) _ (by omega) ⟨(zp_set M9ξ 21 (2000 + (i9ξ + 11)) ((V 33 (2000 + i9ξ)) - (V 52 (2000 + i9ξ)))), (zM_setE hM9ξ (hYbξ _ (List.mem_of_getElem? (i := 15) rfl))), (fun o k hkξ => (zp_set_ne (Or.inl (fun e => by subst e; exact absurd hkξ (by decide)))).trans (hV9ξ o k hkξ)), zo_tw_s (n := 11 + i9ξ) hW9ξ (by omega) ?_⟩
          rw [zo_wC_w hi9nξ]
          rw [if_pos (by omega)]
  have loop1 : ∀ (r9ξ i9ξ : Nat) (G : Nat → Nat → Int), r9ξ + i9ξ = 6 → zo_tw A Y F V (5 + i9ξ) u.1 G → zp_J p l e R s m args below meth c Q w u [] 60 [(2, 0, (i9ξ : Int)), (1, 2, (A 2 : Int)), (0, 2, (A 0 : Int))] [] u.1 G := by
    intro r9ξ
    induction r9ξ with
    | zero =>
      intro i9ξ G hrξ hT9ξ
      obtain rfl : i9ξ = 6 := by omega
      obtain ⟨M9ξ, hM9ξ, hV9ξ, hW9ξ⟩ := hT9ξ
      show zp_J p l e R s m args below meth c Q w u [] 60 [(2, 0, 6), (1, 2, (A 2 : Int)), (0, 2, (A 0 : Int))] [] u.1 G
      refine zp_load (pc := 60) hx hb (zd_X11_tellOrderWords (60, .iload_n 2, 1, 0, []) (List.mem_of_getElem? (i := 36) rfl)) rfl (j := 0) rfl ?_
      refine zp_const (pc := 61) hx hb (zd_X11_tellOrderWords (61, .bipush 6, 2, 0, []) (List.mem_of_getElem? (i := 37) rfl)) rfl rfl ?_
      refine zp_icmp (pc := 63) (tgt := 101) hx hb (zd_X11_tellOrderWords (63, .if_icmp .ge 38, 3, 0, []) (List.mem_of_getElem? (i := 38) rfl)) rfl (fun (hc653ξ : 6 ≤ (6 : Int)) => ?_) (fun (hc653ξ : ¬ (6 ≤ (6 : Int))) => ?_)
      · refine zp_const (pc := 101) hx hb (zd_X11_tellOrderWords (101, .iconst 0, 1, 0, []) (List.mem_of_getElem? (i := 58) rfl)) rfl rfl ?_
        refine zp_store (L' := [(2, 0, 0), (1, 2, (A 2 : Int)), (0, 2, (A 0 : Int))]) (pc := 102) hx hb hnLξ (zd_X11_tellOrderWords (102, .istore_n 2, 1, 0, []) (List.mem_of_getElem? (i := 59) rfl)) rfl rfl rfl ?_
        refine zp_drop (L' := [(2, 0, 0), (1, 2, (A 2 : Int)), (0, 2, (A 0 : Int))]) (by simp) ?_
        exact loop2 10 0 G (by omega) ⟨M9ξ, hM9ξ, hV9ξ, hW9ξ⟩
      · exfalso
        omega
    | succ r9ξ ih =>
      intro i9ξ G hrξ hT9ξ
      obtain ⟨M9ξ, hM9ξ, hV9ξ, hW9ξ⟩ := hT9ξ
      have hi9nξ : i9ξ < 6 := by omega
      refine zp_load (pc := 60) hx hb (zd_X11_tellOrderWords (60, .iload_n 2, 1, 0, []) (List.mem_of_getElem? (i := 36) rfl)) rfl (j := 0) rfl ?_
      refine zp_const (pc := 61) hx hb (zd_X11_tellOrderWords (61, .bipush 6, 2, 0, []) (List.mem_of_getElem? (i := 37) rfl)) rfl rfl ?_
      refine zp_icmp (pc := 63) (tgt := 101) hx hb (zd_X11_tellOrderWords (63, .if_icmp .ge 38, 3, 0, []) (List.mem_of_getElem? (i := 38) rfl)) rfl (fun (hc654ξ : 6 ≤ (i9ξ : Int)) => ?_) (fun (hc654ξ : ¬ (6 ≤ (i9ξ : Int))) => ?_)
      · exfalso
        omega
      · refine zp_load (pc := 66) hx hb (zd_X11_tellOrderWords (66, .aload_n 0, 1, 0, []) (List.mem_of_getElem? (i := 39) rfl)) rfl (j := 2) rfl ?_
        refine zp_getf (n := (A 21 : Int)) (pc := 67) hx hb hEξ hwξ (zd_X11_tellOrderWords (67, .getfield 90, 3, 0, []) (List.mem_of_getElem? (i := 40) rfl)) (j := 62) rfl rfl rfl (zM_P hM9ξ (hYbξ _ (List.mem_of_getElem? (i := 0) rfl))) ((zM_G hM9ξ (hYbξ _ (List.mem_of_getElem? (i := 0) rfl)) 12).trans (zM_F hM9ξ (hFbξ _ (List.mem_of_getElem? (i := 10) rfl)))) ?_
        refine zp_const (pc := 70) hx hb (zd_X11_tellOrderWords (70, .iconst 5, 1, 0, []) (List.mem_of_getElem? (i := 41) rfl)) rfl rfl ?_
        refine zp_load (pc := 71) hx hb (zd_X11_tellOrderWords (71, .iload_n 2, 1, 0, []) (List.mem_of_getElem? (i := 42) rfl)) rfl (j := 0) rfl ?_
        refine zp_add (n := ((i9ξ : Int) + 5)) (pc := 72) hx hb (zd_X11_tellOrderWords (72, .iadd, 1, 0, []) (List.mem_of_getElem? (i := 43) rfl)) (by omega) (zp_r0 (by omega) (by omega)) ?_
        refine zp_load (pc := 73) hx hb (zd_X11_tellOrderWords (73, .aload_n 0, 1, 0, []) (List.mem_of_getElem? (i := 44) rfl)) rfl (j := 2) rfl ?_
        refine zp_getf (n := (A 1 : Int)) (pc := 74) hx hb hEξ hwξ (zd_X11_tellOrderWords (74, .getfield 10, 3, 0, []) (List.mem_of_getElem? (i := 45) rfl)) (j := 50) rfl rfl rfl (zM_P hM9ξ (hYbξ _ (List.mem_of_getElem? (i := 0) rfl))) ((zM_G hM9ξ (hYbξ _ (List.mem_of_getElem? (i := 0) rfl)) 0).trans (zM_F hM9ξ (hFbξ _ (List.mem_of_getElem? (i := 0) rfl)))) ?_
        refine zp_load (pc := 77) hx hb (zd_X11_tellOrderWords (77, .iload_n 2, 1, 0, []) (List.mem_of_getElem? (i := 46) rfl)) rfl (j := 0) rfl ?_
        refine zp_call (pc := 78) (how := 0) (idx := 131) (mi := 22) (S := [(0, ((i9ξ : Int) + 5)), (2, (A 21 : Int))]) hx hb hEξ hwξ heffξ hrmξ (zX_hpe1 hWξ A Y F M9ξ) rfl (j := 15) rfl rfl (by decide +kernel) (zd_X11_tellOrderWords (78, .invokevirtual 131, 3, 0, []) (List.mem_of_getElem? (i := 47) rfl)) [(A 1 : Int), (i9ξ : Int)] rfl ⟨zp_o2 (zM_P hM9ξ (hYbξ _ (List.mem_of_getElem? (i := 1) rfl))), zp_o0 (by omega) (by omega) (by omega) (by omega), trivial⟩ (Nat.le_of_ble_eq_true rfl) ⟨hM9ξ, rfl, hYF0ξ⟩ (fun al halξ rni655ξ Pi655 Gi655 hexti655ξ hfri655ξ hoki655ξ hcsi655ξ hpsii655ξ => ?_)
        obtain rfl := List.mem_singleton.mp halξ
        have hri655ξ := zp_int (hoki655ξ _ rfl).1
        obtain ⟨hPei655ξ, hGei655ξ, hti655ξ⟩ := hpsii655ξ
        rw [hPei655ξ, hGei655ξ]
        clear hexti655ξ hfri655ξ hcsi655ξ hPei655ξ hGei655ξ
        have hti655ξ : rni655ξ = 1 ↔ 0 ≤ (i9ξ : Int) ∧ (i9ξ : Int) < (V 1 1) ∧ (i9ξ : Int) < 6 := by
          have h9ξ : rni655ξ = 1 ↔ 0 ≤ (i9ξ : Int) ∧ (i9ξ : Int) < M9ξ 1 1 ∧ (i9ξ : Int) < 6 := hti655ξ
          rw [(hV9ξ 1 1 (by decide))] at h9ξ
          exact h9ξ
        refine zp_if (pc := 81) (tgt := 93) hx hb (zd_X11_tellOrderWords (81, .ifCond .eq 12, 3, 0, []) (List.mem_of_getElem? (i := 48) rfl)) rfl (fun (hc656ξ : rni655ξ = 0) => ?_) (fun (hc656ξ : ¬ (rni655ξ = 0)) => ?_)
        · have hbf657ξ : ¬ (0 ≤ (i9ξ : Int) ∧ (i9ξ : Int) < (V 1 1) ∧ (i9ξ : Int) < 6) := fun h9ξ => absurd ((Iff.mpr hti655ξ) h9ξ) (by omega)
          refine zp_const (pc := 93) hx hb (zd_X11_tellOrderWords (93, .iconst (-1), 1, 0, []) (List.mem_of_getElem? (i := 54) rfl)) rfl rfl ?_
          refine zp_iast (j := (i9ξ + 5)) (pc := 94) hx hb hwξ heffξ (zd_X11_tellOrderWords (94, .iastore, 1, 0, []) (List.mem_of_getElem? (i := 55) rfl)) (show zp_ia 1 56 = some (21, 0, 0, (-2147483648), 2147483647) from rfl) (zM_P hM9ξ (hYbξ _ (List.mem_of_getElem? (i := 15) rfl))) (by omega) (by omega) (zp_o0 (by omega) (by omega) (by omega) (by omega)) rfl ?_
          refine zp_iinc (L' := [(2, 0, ((i9ξ : Int) + 1)), (1, 2, (A 2 : Int)), (0, 2, (A 0 : Int))]) (n := ((i9ξ : Int) + 1)) (pc := 95) hx hb hnLξ (zd_X11_tellOrderWords (95, .iinc 2 1, 3, 0, []) (List.mem_of_getElem? (i := 56) rfl)) (j := 0) rfl (by omega) (zp_r0 (by omega) (by omega)) rfl rfl ?_
          refine zp_goto (tgt := 60) (pc := 98) hx hb (zd_X11_tellOrderWords (98, .goto (-38), 3, 0, []) (List.mem_of_getElem? (i := 57) rfl)) rfl ?_
          refine zp_drop (L' := [(2, 0, ((i9ξ : Int) + 1)), (1, 2, (A 2 : Int)), (0, 2, (A 0 : Int))]) (by simp) ?_
          refine ih (i9ξ + 1) _ (by omega) ⟨(zp_set M9ξ 21 (2000 + (i9ξ + 5)) (-1)), (zM_setE hM9ξ (hYbξ _ (List.mem_of_getElem? (i := 15) rfl))), (fun o k hkξ => (zp_set_ne (Or.inl (fun e => by subst e; exact absurd hkξ (by decide)))).trans (hV9ξ o k hkξ)), zo_tw_s (n := 5 + i9ξ) hW9ξ (by omega) ?_⟩
          rw [zo_wC_p hi9nξ]
          rw [if_neg (by omega)]
        · have hbt658ξ := (Iff.mp hti655ξ) (by omega)
          refine zp_load (pc := 84) hx hb (zd_X11_tellOrderWords (84, .aload_n 1, 1, 0, []) (List.mem_of_getElem? (i := 49) rfl)) rfl (j := 1) rfl ?_
          refine zp_getf (n := (A 51 : Int)) (pc := 85) hx hb hEξ hwξ (zd_X11_tellOrderWords (85, .getfield 144, 3, 0, []) (List.mem_of_getElem? (i := 50) rfl)) (j := 3) rfl rfl rfl (zM_P hM9ξ (hYbξ _ (List.mem_of_getElem? (i := 2) rfl))) ((zM_G hM9ξ (hYbξ _ (List.mem_of_getElem? (i := 2) rfl)) 1).trans (zM_F hM9ξ (hFbξ _ (List.mem_of_getElem? (i := 26) rfl)))) ?_
          refine zp_load (pc := 88) hx hb (zd_X11_tellOrderWords (88, .iload_n 2, 1, 0, []) (List.mem_of_getElem? (i := 51) rfl)) rfl (j := 0) rfl ?_
          refine zp_iald (j := i9ξ) (v := (V 51 (2000 + i9ξ))) (pc := 89) hx hb hwξ (zd_X11_tellOrderWords (89, .iaload, 1, 0, []) (List.mem_of_getElem? (i := 52) rfl)) (show zp_ia 1 18 = some (6, 0, 0, 0, 45) from rfl) (zM_P hM9ξ (hYbξ _ (List.mem_of_getElem? (i := 29) rfl))) (by omega) (by omega) ((zM_G hM9ξ (hYbξ _ (List.mem_of_getElem? (i := 29) rfl)) (2000 + i9ξ)).trans (hV9ξ 51 (2000 + i9ξ) (by decide))) (fun hk659ξ => ?_)
          have hk659bξ := zp_int hk659ξ
          clear hk659ξ
          refine zp_goto (tgt := 94) (pc := 90) hx hb (zd_X11_tellOrderWords (90, .goto 4, 3, 0, []) (List.mem_of_getElem? (i := 53) rfl)) rfl ?_
          refine zp_iast (j := (i9ξ + 5)) (pc := 94) hx hb hwξ heffξ (zd_X11_tellOrderWords (94, .iastore, 1, 0, []) (List.mem_of_getElem? (i := 55) rfl)) (show zp_ia 1 56 = some (21, 0, 0, (-2147483648), 2147483647) from rfl) (zM_P hM9ξ (hYbξ _ (List.mem_of_getElem? (i := 15) rfl))) (by omega) (by omega) (zp_o0 (by omega) (by omega) (by omega) (by omega)) rfl ?_
          refine zp_iinc (L' := [(2, 0, ((i9ξ : Int) + 1)), (1, 2, (A 2 : Int)), (0, 2, (A 0 : Int))]) (n := ((i9ξ : Int) + 1)) (pc := 95) hx hb hnLξ (zd_X11_tellOrderWords (95, .iinc 2 1, 3, 0, []) (List.mem_of_getElem? (i := 56) rfl)) (j := 0) rfl (by omega) (zp_r0 (by omega) (by omega)) rfl rfl ?_
          refine zp_goto (tgt := 60) (pc := 98) hx hb (zd_X11_tellOrderWords (98, .goto (-38), 3, 0, []) (List.mem_of_getElem? (i := 57) rfl)) rfl ?_
          refine zp_drop (L' := [(2, 0, ((i9ξ : Int) + 1)), (1, 2, (A 2 : Int)), (0, 2, (A 0 : Int))]) (by simp) ?_
          refine ih (i9ξ + 1) _ (by omega) ⟨(zp_set M9ξ 21 (2000 + (i9ξ + 5)) (V 51 (2000 + i9ξ))), (zM_setE hM9ξ (hYbξ _ (List.mem_of_getElem? (i := 15) rfl))), (fun o k hkξ => (zp_set_ne (Or.inl (fun e => by subst e; exact absurd hkξ (by decide)))).trans (hV9ξ o k hkξ)), zo_tw_s (n := 5 + i9ξ) hW9ξ (by omega) ?_⟩
          rw [zo_wC_p hi9nξ]
          rw [if_pos (by omega)]
  refine zp_load (pc := 0) hx hb (zd_X11_tellOrderWords (0, .aload_n 0, 1, 0, []) (List.mem_of_getElem? (i := 0) rfl)) rfl (j := 0) rfl ?_
  refine zp_getf (n := (A 1 : Int)) (pc := 1) hx hb hEξ hwξ (zd_X11_tellOrderWords (1, .getfield 10, 3, 0, []) (List.mem_of_getElem? (i := 1) rfl)) (j := 50) rfl rfl rfl (zM_P hMξ (hYbξ _ (List.mem_of_getElem? (i := 0) rfl))) ((zM_G hMξ (hYbξ _ (List.mem_of_getElem? (i := 0) rfl)) 0).trans (zM_F hMξ (hFbξ _ (List.mem_of_getElem? (i := 0) rfl)))) ?_
  refine zp_getf (n := (A 2 : Int)) (pc := 4) hx hb hEξ hwξ (zd_X11_tellOrderWords (4, .getfield 135, 3, 0, []) (List.mem_of_getElem? (i := 2) rfl)) (j := 24) rfl rfl rfl (zM_P hMξ (hYbξ _ (List.mem_of_getElem? (i := 1) rfl))) ((zM_G hMξ (hYbξ _ (List.mem_of_getElem? (i := 1) rfl)) 18).trans (zM_F hMξ (hFbξ _ (List.mem_of_getElem? (i := 24) rfl)))) ?_
  refine zp_store (L' := [(1, 2, (A 2 : Int)), (0, 2, (A 0 : Int))]) (pc := 7) hx hb hnLξ (zd_X11_tellOrderWords (7, .astore_n 1, 1, 0, []) (List.mem_of_getElem? (i := 3) rfl)) rfl rfl rfl ?_
  refine zp_load (pc := 8) hx hb (zd_X11_tellOrderWords (8, .aload_n 0, 1, 0, []) (List.mem_of_getElem? (i := 4) rfl)) rfl (j := 1) rfl ?_
  refine zp_getf (n := (A 21 : Int)) (pc := 9) hx hb hEξ hwξ (zd_X11_tellOrderWords (9, .getfield 90, 3, 0, []) (List.mem_of_getElem? (i := 5) rfl)) (j := 62) rfl rfl rfl (zM_P hMξ (hYbξ _ (List.mem_of_getElem? (i := 0) rfl))) ((zM_G hMξ (hYbξ _ (List.mem_of_getElem? (i := 0) rfl)) 12).trans (zM_F hMξ (hFbξ _ (List.mem_of_getElem? (i := 10) rfl)))) ?_
  refine zp_const (pc := 12) hx hb (zd_X11_tellOrderWords (12, .iconst 0, 1, 0, []) (List.mem_of_getElem? (i := 6) rfl)) rfl rfl ?_
  refine zp_load (pc := 13) hx hb (zd_X11_tellOrderWords (13, .aload_n 1, 1, 0, []) (List.mem_of_getElem? (i := 7) rfl)) rfl (j := 0) rfl ?_
  refine zp_getf (n := (V 2 6)) (pc := 14) hx hb hEξ hwξ (zd_X11_tellOrderWords (14, .getfield 178, 3, 0, []) (List.mem_of_getElem? (i := 8) rfl)) (j := 8) rfl rfl rfl (zM_P hMξ (hYbξ _ (List.mem_of_getElem? (i := 2) rfl))) ((zM_G hMξ (hYbξ _ (List.mem_of_getElem? (i := 2) rfl)) 6).trans (hVξ 2 6 (by decide))) ?_
  refine zp_kn (k := 6) (a := (A 2)) hwξ (show zp_fd 2 6 = some (2, 0, 0, (-2147483648), 2147483647) from rfl) rfl (zM_P hMξ (hYbξ _ (List.mem_of_getElem? (i := 2) rfl))) (fun hf660ξ => ?_)
  have hf660bξ := zp_int hf660ξ
  rw [((zM_G hMξ (hYbξ _ (List.mem_of_getElem? (i := 2) rfl)) 6).trans (hVξ 2 6 (by decide)))] at hf660bξ
  clear hf660ξ
  refine zp_iast (j := 0) (pc := 17) hx hb hwξ heffξ (zd_X11_tellOrderWords (17, .iastore, 1, 0, []) (List.mem_of_getElem? (i := 9) rfl)) (show zp_ia 1 56 = some (21, 0, 0, (-2147483648), 2147483647) from rfl) (zM_P hMξ (hYbξ _ (List.mem_of_getElem? (i := 15) rfl))) (by omega) (by omega) (zp_o0 (by omega) (by omega) (by omega) (by omega)) rfl ?_
  refine zp_load (pc := 18) hx hb (zd_X11_tellOrderWords (18, .aload_n 0, 1, 0, []) (List.mem_of_getElem? (i := 10) rfl)) rfl (j := 1) rfl ?_
  refine zp_getf (n := (A 21 : Int)) (pc := 19) hx hb hEξ hwξ (zd_X11_tellOrderWords (19, .getfield 90, 3, 0, []) (List.mem_of_getElem? (i := 11) rfl)) (j := 62) rfl rfl rfl (zM_P hMξ (hYbξ _ (List.mem_of_getElem? (i := 0) rfl))) ((zp_set_ne (Or.inl (zM_ne hMξ (hYbξ _ (List.mem_of_getElem? (i := 0) rfl)) (hYbξ _ (List.mem_of_getElem? (i := 15) rfl)) (by decide)))).trans (((zM_G hMξ (hYbξ _ (List.mem_of_getElem? (i := 0) rfl)) 12).trans (zM_F hMξ (hFbξ _ (List.mem_of_getElem? (i := 10) rfl)))))) ?_
  refine zp_const (pc := 22) hx hb (zd_X11_tellOrderWords (22, .iconst 1, 1, 0, []) (List.mem_of_getElem? (i := 12) rfl)) rfl rfl ?_
  refine zp_load (pc := 23) hx hb (zd_X11_tellOrderWords (23, .aload_n 1, 1, 0, []) (List.mem_of_getElem? (i := 13) rfl)) rfl (j := 0) rfl ?_
  refine zp_getf (n := (V 2 5)) (pc := 24) hx hb hEξ hwξ (zd_X11_tellOrderWords (24, .getfield 280, 3, 0, []) (List.mem_of_getElem? (i := 14) rfl)) (j := 7) rfl rfl rfl (zM_P hMξ (hYbξ _ (List.mem_of_getElem? (i := 2) rfl))) ((zp_set_ne (Or.inl (zM_ne hMξ (hYbξ _ (List.mem_of_getElem? (i := 2) rfl)) (hYbξ _ (List.mem_of_getElem? (i := 15) rfl)) (by decide)))).trans (((zM_G hMξ (hYbξ _ (List.mem_of_getElem? (i := 2) rfl)) 5).trans (hVξ 2 5 (by decide))))) ?_
  refine zp_kn (k := 5) (a := (A 2)) hwξ (show zp_fd 2 5 = some (2, 0, 0, (-2147483648), 2147483647) from rfl) rfl (zM_P hMξ (hYbξ _ (List.mem_of_getElem? (i := 2) rfl))) (fun hf661ξ => ?_)
  have hf661bξ := zp_int hf661ξ
  rw [((zp_set_ne (Or.inl (zM_ne hMξ (hYbξ _ (List.mem_of_getElem? (i := 2) rfl)) (hYbξ _ (List.mem_of_getElem? (i := 15) rfl)) (by decide)))).trans (((zM_G hMξ (hYbξ _ (List.mem_of_getElem? (i := 2) rfl)) 5).trans (hVξ 2 5 (by decide)))))] at hf661bξ
  clear hf661ξ
  refine zp_iast (j := 1) (pc := 27) hx hb hwξ heffξ (zd_X11_tellOrderWords (27, .iastore, 1, 0, []) (List.mem_of_getElem? (i := 15) rfl)) (show zp_ia 1 56 = some (21, 0, 0, (-2147483648), 2147483647) from rfl) (zM_P hMξ (hYbξ _ (List.mem_of_getElem? (i := 15) rfl))) (by omega) (by omega) (zp_o0 (by omega) (by omega) (by omega) (by omega)) rfl ?_
  refine zp_load (pc := 28) hx hb (zd_X11_tellOrderWords (28, .aload_n 0, 1, 0, []) (List.mem_of_getElem? (i := 16) rfl)) rfl (j := 1) rfl ?_
  refine zp_getf (n := (A 21 : Int)) (pc := 29) hx hb hEξ hwξ (zd_X11_tellOrderWords (29, .getfield 90, 3, 0, []) (List.mem_of_getElem? (i := 17) rfl)) (j := 62) rfl rfl rfl (zM_P hMξ (hYbξ _ (List.mem_of_getElem? (i := 0) rfl))) ((zp_set_ne (Or.inl (zM_ne hMξ (hYbξ _ (List.mem_of_getElem? (i := 0) rfl)) (hYbξ _ (List.mem_of_getElem? (i := 15) rfl)) (by decide)))).trans ((zp_set_ne (Or.inl (zM_ne hMξ (hYbξ _ (List.mem_of_getElem? (i := 0) rfl)) (hYbξ _ (List.mem_of_getElem? (i := 15) rfl)) (by decide)))).trans (((zM_G hMξ (hYbξ _ (List.mem_of_getElem? (i := 0) rfl)) 12).trans (zM_F hMξ (hFbξ _ (List.mem_of_getElem? (i := 10) rfl))))))) ?_
  refine zp_const (pc := 32) hx hb (zd_X11_tellOrderWords (32, .iconst 2, 1, 0, []) (List.mem_of_getElem? (i := 18) rfl)) rfl rfl ?_
  refine zp_load (pc := 33) hx hb (zd_X11_tellOrderWords (33, .aload_n 1, 1, 0, []) (List.mem_of_getElem? (i := 19) rfl)) rfl (j := 0) rfl ?_
  refine zp_getf (n := (V 2 3)) (pc := 34) hx hb hEξ hwξ (zd_X11_tellOrderWords (34, .getfield 283, 3, 0, []) (List.mem_of_getElem? (i := 20) rfl)) (j := 5) rfl rfl rfl (zM_P hMξ (hYbξ _ (List.mem_of_getElem? (i := 2) rfl))) ((zp_set_ne (Or.inl (zM_ne hMξ (hYbξ _ (List.mem_of_getElem? (i := 2) rfl)) (hYbξ _ (List.mem_of_getElem? (i := 15) rfl)) (by decide)))).trans ((zp_set_ne (Or.inl (zM_ne hMξ (hYbξ _ (List.mem_of_getElem? (i := 2) rfl)) (hYbξ _ (List.mem_of_getElem? (i := 15) rfl)) (by decide)))).trans (((zM_G hMξ (hYbξ _ (List.mem_of_getElem? (i := 2) rfl)) 3).trans (hVξ 2 3 (by decide)))))) ?_
  refine zp_kn (k := 3) (a := (A 2)) hwξ (show zp_fd 2 3 = some (2, 0, 0, (-2147483648), 2147483647) from rfl) rfl (zM_P hMξ (hYbξ _ (List.mem_of_getElem? (i := 2) rfl))) (fun hf662ξ => ?_)
  have hf662bξ := zp_int hf662ξ
  rw [((zp_set_ne (Or.inl (zM_ne hMξ (hYbξ _ (List.mem_of_getElem? (i := 2) rfl)) (hYbξ _ (List.mem_of_getElem? (i := 15) rfl)) (by decide)))).trans ((zp_set_ne (Or.inl (zM_ne hMξ (hYbξ _ (List.mem_of_getElem? (i := 2) rfl)) (hYbξ _ (List.mem_of_getElem? (i := 15) rfl)) (by decide)))).trans (((zM_G hMξ (hYbξ _ (List.mem_of_getElem? (i := 2) rfl)) 3).trans (hVξ 2 3 (by decide))))))] at hf662bξ
  clear hf662ξ
  refine zp_iast (j := 2) (pc := 37) hx hb hwξ heffξ (zd_X11_tellOrderWords (37, .iastore, 1, 0, []) (List.mem_of_getElem? (i := 21) rfl)) (show zp_ia 1 56 = some (21, 0, 0, (-2147483648), 2147483647) from rfl) (zM_P hMξ (hYbξ _ (List.mem_of_getElem? (i := 15) rfl))) (by omega) (by omega) (zp_o0 (by omega) (by omega) (by omega) (by omega)) rfl ?_
  refine zp_load (pc := 38) hx hb (zd_X11_tellOrderWords (38, .aload_n 0, 1, 0, []) (List.mem_of_getElem? (i := 22) rfl)) rfl (j := 1) rfl ?_
  refine zp_getf (n := (A 21 : Int)) (pc := 39) hx hb hEξ hwξ (zd_X11_tellOrderWords (39, .getfield 90, 3, 0, []) (List.mem_of_getElem? (i := 23) rfl)) (j := 62) rfl rfl rfl (zM_P hMξ (hYbξ _ (List.mem_of_getElem? (i := 0) rfl))) ((zp_set_ne (Or.inl (zM_ne hMξ (hYbξ _ (List.mem_of_getElem? (i := 0) rfl)) (hYbξ _ (List.mem_of_getElem? (i := 15) rfl)) (by decide)))).trans ((zp_set_ne (Or.inl (zM_ne hMξ (hYbξ _ (List.mem_of_getElem? (i := 0) rfl)) (hYbξ _ (List.mem_of_getElem? (i := 15) rfl)) (by decide)))).trans ((zp_set_ne (Or.inl (zM_ne hMξ (hYbξ _ (List.mem_of_getElem? (i := 0) rfl)) (hYbξ _ (List.mem_of_getElem? (i := 15) rfl)) (by decide)))).trans (((zM_G hMξ (hYbξ _ (List.mem_of_getElem? (i := 0) rfl)) 12).trans (zM_F hMξ (hFbξ _ (List.mem_of_getElem? (i := 10) rfl)))))))) ?_
  refine zp_const (pc := 42) hx hb (zd_X11_tellOrderWords (42, .iconst 3, 1, 0, []) (List.mem_of_getElem? (i := 24) rfl)) rfl rfl ?_
  refine zp_load (pc := 43) hx hb (zd_X11_tellOrderWords (43, .aload_n 0, 1, 0, []) (List.mem_of_getElem? (i := 25) rfl)) rfl (j := 1) rfl ?_
  refine zp_getf (n := (V 0 13)) (pc := 44) hx hb hEξ hwξ (zd_X11_tellOrderWords (44, .getfield 233, 3, 0, []) (List.mem_of_getElem? (i := 26) rfl)) (j := 63) rfl rfl rfl (zM_P hMξ (hYbξ _ (List.mem_of_getElem? (i := 0) rfl))) ((zp_set_ne (Or.inl (zM_ne hMξ (hYbξ _ (List.mem_of_getElem? (i := 0) rfl)) (hYbξ _ (List.mem_of_getElem? (i := 15) rfl)) (by decide)))).trans ((zp_set_ne (Or.inl (zM_ne hMξ (hYbξ _ (List.mem_of_getElem? (i := 0) rfl)) (hYbξ _ (List.mem_of_getElem? (i := 15) rfl)) (by decide)))).trans ((zp_set_ne (Or.inl (zM_ne hMξ (hYbξ _ (List.mem_of_getElem? (i := 0) rfl)) (hYbξ _ (List.mem_of_getElem? (i := 15) rfl)) (by decide)))).trans (((zM_G hMξ (hYbξ _ (List.mem_of_getElem? (i := 0) rfl)) 13).trans (hVξ 0 13 (by decide))))))) ?_
  refine zp_kn (k := 13) (a := (A 0)) hwξ (show zp_fd 12 13 = some (11, 0, 0, (-2147483648), 2147483647) from rfl) rfl (zM_P hMξ (hYbξ _ (List.mem_of_getElem? (i := 0) rfl))) (fun hf663ξ => ?_)
  have hf663bξ := zp_int hf663ξ
  rw [((zp_set_ne (Or.inl (zM_ne hMξ (hYbξ _ (List.mem_of_getElem? (i := 0) rfl)) (hYbξ _ (List.mem_of_getElem? (i := 15) rfl)) (by decide)))).trans ((zp_set_ne (Or.inl (zM_ne hMξ (hYbξ _ (List.mem_of_getElem? (i := 0) rfl)) (hYbξ _ (List.mem_of_getElem? (i := 15) rfl)) (by decide)))).trans ((zp_set_ne (Or.inl (zM_ne hMξ (hYbξ _ (List.mem_of_getElem? (i := 0) rfl)) (hYbξ _ (List.mem_of_getElem? (i := 15) rfl)) (by decide)))).trans (((zM_G hMξ (hYbξ _ (List.mem_of_getElem? (i := 0) rfl)) 13).trans (hVξ 0 13 (by decide)))))))] at hf663bξ
  clear hf663ξ
  refine zp_iast (j := 3) (pc := 47) hx hb hwξ heffξ (zd_X11_tellOrderWords (47, .iastore, 1, 0, []) (List.mem_of_getElem? (i := 27) rfl)) (show zp_ia 1 56 = some (21, 0, 0, (-2147483648), 2147483647) from rfl) (zM_P hMξ (hYbξ _ (List.mem_of_getElem? (i := 15) rfl))) (by omega) (by omega) (zp_o0 (by omega) (by omega) (by omega) (by omega)) rfl ?_
  refine zp_load (pc := 48) hx hb (zd_X11_tellOrderWords (48, .aload_n 0, 1, 0, []) (List.mem_of_getElem? (i := 28) rfl)) rfl (j := 1) rfl ?_
  refine zp_getf (n := (A 21 : Int)) (pc := 49) hx hb hEξ hwξ (zd_X11_tellOrderWords (49, .getfield 90, 3, 0, []) (List.mem_of_getElem? (i := 29) rfl)) (j := 62) rfl rfl rfl (zM_P hMξ (hYbξ _ (List.mem_of_getElem? (i := 0) rfl))) ((zp_set_ne (Or.inl (zM_ne hMξ (hYbξ _ (List.mem_of_getElem? (i := 0) rfl)) (hYbξ _ (List.mem_of_getElem? (i := 15) rfl)) (by decide)))).trans ((zp_set_ne (Or.inl (zM_ne hMξ (hYbξ _ (List.mem_of_getElem? (i := 0) rfl)) (hYbξ _ (List.mem_of_getElem? (i := 15) rfl)) (by decide)))).trans ((zp_set_ne (Or.inl (zM_ne hMξ (hYbξ _ (List.mem_of_getElem? (i := 0) rfl)) (hYbξ _ (List.mem_of_getElem? (i := 15) rfl)) (by decide)))).trans ((zp_set_ne (Or.inl (zM_ne hMξ (hYbξ _ (List.mem_of_getElem? (i := 0) rfl)) (hYbξ _ (List.mem_of_getElem? (i := 15) rfl)) (by decide)))).trans (((zM_G hMξ (hYbξ _ (List.mem_of_getElem? (i := 0) rfl)) 12).trans (zM_F hMξ (hFbξ _ (List.mem_of_getElem? (i := 10) rfl))))))))) ?_
  refine zp_const (pc := 52) hx hb (zd_X11_tellOrderWords (52, .iconst 4, 1, 0, []) (List.mem_of_getElem? (i := 30) rfl)) rfl rfl ?_
  refine zp_load (pc := 53) hx hb (zd_X11_tellOrderWords (53, .aload_n 0, 1, 0, []) (List.mem_of_getElem? (i := 31) rfl)) rfl (j := 1) rfl ?_
  refine zp_getf (n := (V 0 14)) (pc := 54) hx hb hEξ hwξ (zd_X11_tellOrderWords (54, .getfield 94, 3, 0, []) (List.mem_of_getElem? (i := 32) rfl)) (j := 64) rfl rfl rfl (zM_P hMξ (hYbξ _ (List.mem_of_getElem? (i := 0) rfl))) ((zp_set_ne (Or.inl (zM_ne hMξ (hYbξ _ (List.mem_of_getElem? (i := 0) rfl)) (hYbξ _ (List.mem_of_getElem? (i := 15) rfl)) (by decide)))).trans ((zp_set_ne (Or.inl (zM_ne hMξ (hYbξ _ (List.mem_of_getElem? (i := 0) rfl)) (hYbξ _ (List.mem_of_getElem? (i := 15) rfl)) (by decide)))).trans ((zp_set_ne (Or.inl (zM_ne hMξ (hYbξ _ (List.mem_of_getElem? (i := 0) rfl)) (hYbξ _ (List.mem_of_getElem? (i := 15) rfl)) (by decide)))).trans ((zp_set_ne (Or.inl (zM_ne hMξ (hYbξ _ (List.mem_of_getElem? (i := 0) rfl)) (hYbξ _ (List.mem_of_getElem? (i := 15) rfl)) (by decide)))).trans (((zM_G hMξ (hYbξ _ (List.mem_of_getElem? (i := 0) rfl)) 14).trans (hVξ 0 14 (by decide)))))))) ?_
  refine zp_kn (k := 14) (a := (A 0)) hwξ (show zp_fd 12 14 = some (11, 0, 0, (-2147483648), 2147483647) from rfl) rfl (zM_P hMξ (hYbξ _ (List.mem_of_getElem? (i := 0) rfl))) (fun hf664ξ => ?_)
  have hf664bξ := zp_int hf664ξ
  rw [((zp_set_ne (Or.inl (zM_ne hMξ (hYbξ _ (List.mem_of_getElem? (i := 0) rfl)) (hYbξ _ (List.mem_of_getElem? (i := 15) rfl)) (by decide)))).trans ((zp_set_ne (Or.inl (zM_ne hMξ (hYbξ _ (List.mem_of_getElem? (i := 0) rfl)) (hYbξ _ (List.mem_of_getElem? (i := 15) rfl)) (by decide)))).trans ((zp_set_ne (Or.inl (zM_ne hMξ (hYbξ _ (List.mem_of_getElem? (i := 0) rfl)) (hYbξ _ (List.mem_of_getElem? (i := 15) rfl)) (by decide)))).trans ((zp_set_ne (Or.inl (zM_ne hMξ (hYbξ _ (List.mem_of_getElem? (i := 0) rfl)) (hYbξ _ (List.mem_of_getElem? (i := 15) rfl)) (by decide)))).trans (((zM_G hMξ (hYbξ _ (List.mem_of_getElem? (i := 0) rfl)) 14).trans (hVξ 0 14 (by decide))))))))] at hf664bξ
  clear hf664ξ
  refine zp_iast (j := 4) (pc := 57) hx hb hwξ heffξ (zd_X11_tellOrderWords (57, .iastore, 1, 0, []) (List.mem_of_getElem? (i := 33) rfl)) (show zp_ia 1 56 = some (21, 0, 0, (-2147483648), 2147483647) from rfl) (zM_P hMξ (hYbξ _ (List.mem_of_getElem? (i := 15) rfl))) (by omega) (by omega) (zp_o0 (by omega) (by omega) (by omega) (by omega)) rfl ?_
  refine zp_const (pc := 58) hx hb (zd_X11_tellOrderWords (58, .iconst 0, 1, 0, []) (List.mem_of_getElem? (i := 34) rfl)) rfl rfl ?_
  refine zp_store (L' := [(2, 0, 0), (1, 2, (A 2 : Int)), (0, 2, (A 0 : Int))]) (pc := 59) hx hb hnLξ (zd_X11_tellOrderWords (59, .istore_n 2, 1, 0, []) (List.mem_of_getElem? (i := 35) rfl)) rfl rfl rfl ?_
  refine zp_drop (L' := [(2, 0, 0), (1, 2, (A 2 : Int)), (0, 2, (A 0 : Int))]) (by simp) ?_
  refine loop1 6 0 _ (by omega) ⟨(zp_set (zp_set (zp_set (zp_set (zp_set M 21 (2000 + 0) (V 2 6)) 21 (2000 + 1) (V 2 5)) 21 (2000 + 2) (V 2 3)) 21 (2000 + 3) (V 0 13)) 21 (2000 + 4) (V 0 14)), (zM_setE (zM_setE (zM_setE (zM_setE (zM_setE hMξ (hYbξ _ (List.mem_of_getElem? (i := 15) rfl))) (hYbξ _ (List.mem_of_getElem? (i := 15) rfl))) (hYbξ _ (List.mem_of_getElem? (i := 15) rfl))) (hYbξ _ (List.mem_of_getElem? (i := 15) rfl))) (hYbξ _ (List.mem_of_getElem? (i := 15) rfl))), fun o k hkξ => ?_, ?_⟩
  · have h21ξ : o ≠ 21 := fun e => by subst e; exact absurd hkξ (by decide)
    rw [zp_set_ne (Or.inl h21ξ), zp_set_ne (Or.inl h21ξ), zp_set_ne (Or.inl h21ξ), zp_set_ne (Or.inl h21ξ), zp_set_ne (Or.inl h21ξ)]
    exact hVξ o k hkξ
  · exact zo_tw_s (zo_tw_s (zo_tw_s (zo_tw_s (zo_tw_s (n := 0) (fun j hjξ => absurd hjξ (Nat.not_lt_zero _)) rfl rfl) rfl rfl) rfl rfl) rfl rfl) rfl rfl
